/-! Codes and what decodes from them. Laid by mkbase.py. -/
abbrev b_Table_init : ByteArray := prog_16_method_1_code
abbrev y_Table_init : MethodName := ⟨"ReplacementWriterModel$Table", "<init>", "()V"⟩
theorem d_Table_init_0 : decode b_Table_init 0 = .ok (.aload_n 0, 1) := by decide +kernel
theorem d_Table_init_1 : decode b_Table_init 1 = .ok (.invokespecial 1, 3) := by decide +kernel
theorem d_Table_init_4 : decode b_Table_init 4 = .ok (.aload_n 0, 1) := by decide +kernel
theorem d_Table_init_5 : decode b_Table_init 5 = .ok (.sipush 12544, 3) := by decide +kernel
theorem d_Table_init_8 : decode b_Table_init 8 = .ok (.newarray .byte, 2) := by decide +kernel
theorem d_Table_init_10 : decode b_Table_init 10 = .ok (.putfield 7, 3) := by decide +kernel
theorem d_Table_init_13 : decode b_Table_init 13 = .ok (.aload_n 0, 1) := by decide +kernel
theorem d_Table_init_14 : decode b_Table_init 14 = .ok (.iconst 0, 1) := by decide +kernel
theorem d_Table_init_15 : decode b_Table_init 15 = .ok (.putfield 13, 3) := by decide +kernel
theorem d_Table_init_18 : decode b_Table_init 18 = .ok (.aload_n 0, 1) := by decide +kernel
theorem d_Table_init_19 : decode b_Table_init 19 = .ok (.iconst 0, 1) := by decide +kernel
theorem d_Table_init_20 : decode b_Table_init 20 = .ok (.putfield 17, 3) := by decide +kernel
theorem d_Table_init_23 : decode b_Table_init 23 = .ok (.aload_n 0, 1) := by decide +kernel
theorem d_Table_init_24 : decode b_Table_init 24 = .ok (.sipush 255, 3) := by decide +kernel
theorem d_Table_init_27 : decode b_Table_init 27 = .ok (.putfield 20, 3) := by decide +kernel
theorem d_Table_init_30 : decode b_Table_init 30 = .ok (.aload_n 0, 1) := by decide +kernel
theorem d_Table_init_31 : decode b_Table_init 31 = .ok (.iconst 4, 1) := by decide +kernel
theorem d_Table_init_32 : decode b_Table_init 32 = .ok (.newarray .int, 2) := by decide +kernel
theorem d_Table_init_34 : decode b_Table_init 34 = .ok (.putfield 24, 3) := by decide +kernel
theorem d_Table_init_37 : decode b_Table_init 37 = .ok (.aload_n 0, 1) := by decide +kernel
theorem d_Table_init_38 : decode b_Table_init 38 = .ok (.iconst 0, 1) := by decide +kernel
theorem d_Table_init_39 : decode b_Table_init 39 = .ok (.putfield 28, 3) := by decide +kernel
theorem d_Table_init_42 : decode b_Table_init 42 = .ok (.aload_n 0, 1) := by decide +kernel
theorem d_Table_init_43 : decode b_Table_init 43 = .ok (.invokevirtual 31, 3) := by decide +kernel
theorem d_Table_init_46 : decode b_Table_init 46 = .ok (.aload_n 0, 1) := by decide +kernel
theorem d_Table_init_47 : decode b_Table_init 47 = .ok (.invokevirtual 34, 3) := by decide +kernel
theorem d_Table_init_50 : decode b_Table_init 50 = .ok (.aload_n 0, 1) := by decide +kernel
theorem d_Table_init_51 : decode b_Table_init 51 = .ok (.invokevirtual 37, 3) := by decide +kernel
theorem d_Table_init_54 : decode b_Table_init 54 = .ok (.aload_n 0, 1) := by decide +kernel
theorem d_Table_init_55 : decode b_Table_init 55 = .ok (.invokevirtual 40, 3) := by decide +kernel
theorem d_Table_init_58 : decode b_Table_init 58 = .ok (.sipush 256, 3) := by decide +kernel
theorem d_Table_init_61 : decode b_Table_init 61 = .ok (.istore_n 1, 1) := by decide +kernel
theorem d_Table_init_62 : decode b_Table_init 62 = .ok (.iload_n 1, 1) := by decide +kernel
theorem d_Table_init_63 : decode b_Table_init 63 = .ok (.sipush 312, 3) := by decide +kernel
theorem d_Table_init_66 : decode b_Table_init 66 = .ok (.if_icmp .ge 17, 3) := by decide +kernel
theorem d_Table_init_69 : decode b_Table_init 69 = .ok (.aload_n 0, 1) := by decide +kernel
theorem d_Table_init_70 : decode b_Table_init 70 = .ok (.getfield 7, 3) := by decide +kernel
theorem d_Table_init_73 : decode b_Table_init 73 = .ok (.iload_n 1, 1) := by decide +kernel
theorem d_Table_init_74 : decode b_Table_init 74 = .ok (.bipush 6, 2) := by decide +kernel
theorem d_Table_init_76 : decode b_Table_init 76 = .ok (.bastore, 1) := by decide +kernel
theorem d_Table_init_77 : decode b_Table_init 77 = .ok (.iinc 1 2, 3) := by decide +kernel
theorem d_Table_init_80 : decode b_Table_init 80 = .ok (.goto (-18), 3) := by decide +kernel
theorem d_Table_init_83 : decode b_Table_init 83 = .ok (.sipush 330, 3) := by decide +kernel
theorem d_Table_init_86 : decode b_Table_init 86 = .ok (.istore_n 1, 1) := by decide +kernel
theorem d_Table_init_87 : decode b_Table_init 87 = .ok (.iload_n 1, 1) := by decide +kernel
theorem d_Table_init_88 : decode b_Table_init 88 = .ok (.sipush 376, 3) := by decide +kernel
theorem d_Table_init_91 : decode b_Table_init 91 = .ok (.if_icmp .ge 17, 3) := by decide +kernel
theorem d_Table_init_94 : decode b_Table_init 94 = .ok (.aload_n 0, 1) := by decide +kernel
theorem d_Table_init_95 : decode b_Table_init 95 = .ok (.getfield 7, 3) := by decide +kernel
theorem d_Table_init_98 : decode b_Table_init 98 = .ok (.iload_n 1, 1) := by decide +kernel
theorem d_Table_init_99 : decode b_Table_init 99 = .ok (.bipush 6, 2) := by decide +kernel
theorem d_Table_init_101 : decode b_Table_init 101 = .ok (.bastore, 1) := by decide +kernel
theorem d_Table_init_102 : decode b_Table_init 102 = .ok (.iinc 1 2, 3) := by decide +kernel
theorem d_Table_init_105 : decode b_Table_init 105 = .ok (.goto (-18), 3) := by decide +kernel
theorem d_Table_init_108 : decode b_Table_init 108 = .ok (.sipush 313, 3) := by decide +kernel
theorem d_Table_init_111 : decode b_Table_init 111 = .ok (.istore_n 1, 1) := by decide +kernel
theorem d_Table_init_112 : decode b_Table_init 112 = .ok (.iload_n 1, 1) := by decide +kernel
theorem d_Table_init_113 : decode b_Table_init 113 = .ok (.sipush 329, 3) := by decide +kernel
theorem d_Table_init_116 : decode b_Table_init 116 = .ok (.if_icmp .ge 17, 3) := by decide +kernel
theorem d_Table_init_119 : decode b_Table_init 119 = .ok (.aload_n 0, 1) := by decide +kernel
theorem d_Table_init_120 : decode b_Table_init 120 = .ok (.getfield 7, 3) := by decide +kernel
theorem d_Table_init_123 : decode b_Table_init 123 = .ok (.iload_n 1, 1) := by decide +kernel
theorem d_Table_init_124 : decode b_Table_init 124 = .ok (.bipush 6, 2) := by decide +kernel
theorem d_Table_init_126 : decode b_Table_init 126 = .ok (.bastore, 1) := by decide +kernel
theorem d_Table_init_127 : decode b_Table_init 127 = .ok (.iinc 1 2, 3) := by decide +kernel
theorem d_Table_init_130 : decode b_Table_init 130 = .ok (.goto (-18), 3) := by decide +kernel
theorem d_Table_init_133 : decode b_Table_init 133 = .ok (.sipush 377, 3) := by decide +kernel
theorem d_Table_init_136 : decode b_Table_init 136 = .ok (.istore_n 1, 1) := by decide +kernel
theorem d_Table_init_137 : decode b_Table_init 137 = .ok (.iload_n 1, 1) := by decide +kernel
theorem d_Table_init_138 : decode b_Table_init 138 = .ok (.sipush 383, 3) := by decide +kernel
theorem d_Table_init_141 : decode b_Table_init 141 = .ok (.if_icmp .ge 17, 3) := by decide +kernel
theorem d_Table_init_144 : decode b_Table_init 144 = .ok (.aload_n 0, 1) := by decide +kernel
theorem d_Table_init_145 : decode b_Table_init 145 = .ok (.getfield 7, 3) := by decide +kernel
theorem d_Table_init_148 : decode b_Table_init 148 = .ok (.iload_n 1, 1) := by decide +kernel
theorem d_Table_init_149 : decode b_Table_init 149 = .ok (.bipush 6, 2) := by decide +kernel
theorem d_Table_init_151 : decode b_Table_init 151 = .ok (.bastore, 1) := by decide +kernel
theorem d_Table_init_152 : decode b_Table_init 152 = .ok (.iinc 1 2, 3) := by decide +kernel
theorem d_Table_init_155 : decode b_Table_init 155 = .ok (.goto (-18), 3) := by decide +kernel
theorem d_Table_init_158 : decode b_Table_init 158 = .ok (.return_, 1) := by decide +kernel
abbrev b_Table_table0 : ByteArray := prog_16_method_4_code
abbrev y_Table_table0 : MethodName := ⟨"ReplacementWriterModel$Table", "table0", "()V"⟩
theorem d_Table_table0_0 : decode b_Table_table0 0 = .ok (.aload_n 0, 1) := by decide +kernel
theorem d_Table_table0_1 : decode b_Table_table0 1 = .ok (.iconst 0, 1) := by decide +kernel
theorem d_Table_table0_2 : decode b_Table_table0 2 = .ok (.bipush 31, 2) := by decide +kernel
theorem d_Table_table0_4 : decode b_Table_table0 4 = .ok (.iconst 1, 1) := by decide +kernel
theorem d_Table_table0_5 : decode b_Table_table0 5 = .ok (.invokevirtual 44, 3) := by decide +kernel
theorem d_Table_table0_8 : decode b_Table_table0 8 = .ok (.aload_n 0, 1) := by decide +kernel
theorem d_Table_table0_9 : decode b_Table_table0 9 = .ok (.bipush 127, 2) := by decide +kernel
theorem d_Table_table0_11 : decode b_Table_table0 11 = .ok (.sipush 159, 3) := by decide +kernel
theorem d_Table_table0_14 : decode b_Table_table0 14 = .ok (.iconst 1, 1) := by decide +kernel
theorem d_Table_table0_15 : decode b_Table_table0 15 = .ok (.invokevirtual 44, 3) := by decide +kernel
theorem d_Table_table0_18 : decode b_Table_table0 18 = .ok (.aload_n 0, 1) := by decide +kernel
theorem d_Table_table0_19 : decode b_Table_table0 19 = .ok (.bipush 32, 2) := by decide +kernel
theorem d_Table_table0_21 : decode b_Table_table0 21 = .ok (.bipush 32, 2) := by decide +kernel
theorem d_Table_table0_23 : decode b_Table_table0 23 = .ok (.bipush 24, 2) := by decide +kernel
theorem d_Table_table0_25 : decode b_Table_table0 25 = .ok (.invokevirtual 44, 3) := by decide +kernel
theorem d_Table_table0_28 : decode b_Table_table0 28 = .ok (.aload_n 0, 1) := by decide +kernel
theorem d_Table_table0_29 : decode b_Table_table0 29 = .ok (.sipush 160, 3) := by decide +kernel
theorem d_Table_table0_32 : decode b_Table_table0 32 = .ok (.sipush 160, 3) := by decide +kernel
theorem d_Table_table0_35 : decode b_Table_table0 35 = .ok (.bipush 24, 2) := by decide +kernel
theorem d_Table_table0_37 : decode b_Table_table0 37 = .ok (.invokevirtual 44, 3) := by decide +kernel
theorem d_Table_table0_40 : decode b_Table_table0 40 = .ok (.aload_n 0, 1) := by decide +kernel
theorem d_Table_table0_41 : decode b_Table_table0 41 = .ok (.sipush 8192, 3) := by decide +kernel
theorem d_Table_table0_44 : decode b_Table_table0 44 = .ok (.sipush 8202, 3) := by decide +kernel
theorem d_Table_table0_47 : decode b_Table_table0 47 = .ok (.bipush 24, 2) := by decide +kernel
theorem d_Table_table0_49 : decode b_Table_table0 49 = .ok (.invokevirtual 44, 3) := by decide +kernel
theorem d_Table_table0_52 : decode b_Table_table0 52 = .ok (.aload_n 0, 1) := by decide +kernel
theorem d_Table_table0_53 : decode b_Table_table0 53 = .ok (.sipush 8239, 3) := by decide +kernel
theorem d_Table_table0_56 : decode b_Table_table0 56 = .ok (.sipush 8239, 3) := by decide +kernel
theorem d_Table_table0_59 : decode b_Table_table0 59 = .ok (.bipush 24, 2) := by decide +kernel
theorem d_Table_table0_61 : decode b_Table_table0 61 = .ok (.invokevirtual 44, 3) := by decide +kernel
theorem d_Table_table0_64 : decode b_Table_table0 64 = .ok (.aload_n 0, 1) := by decide +kernel
theorem d_Table_table0_65 : decode b_Table_table0 65 = .ok (.sipush 8287, 3) := by decide +kernel
theorem d_Table_table0_68 : decode b_Table_table0 68 = .ok (.sipush 8287, 3) := by decide +kernel
theorem d_Table_table0_71 : decode b_Table_table0 71 = .ok (.bipush 24, 2) := by decide +kernel
theorem d_Table_table0_73 : decode b_Table_table0 73 = .ok (.invokevirtual 44, 3) := by decide +kernel
theorem d_Table_table0_76 : decode b_Table_table0 76 = .ok (.aload_n 0, 1) := by decide +kernel
theorem d_Table_table0_77 : decode b_Table_table0 77 = .ok (.sipush 12288, 3) := by decide +kernel
theorem d_Table_table0_80 : decode b_Table_table0 80 = .ok (.sipush 12288, 3) := by decide +kernel
theorem d_Table_table0_83 : decode b_Table_table0 83 = .ok (.bipush 24, 2) := by decide +kernel
theorem d_Table_table0_85 : decode b_Table_table0 85 = .ok (.invokevirtual 44, 3) := by decide +kernel
theorem d_Table_table0_88 : decode b_Table_table0 88 = .ok (.aload_n 0, 1) := by decide +kernel
theorem d_Table_table0_89 : decode b_Table_table0 89 = .ok (.sipush 8232, 3) := by decide +kernel
theorem d_Table_table0_92 : decode b_Table_table0 92 = .ok (.sipush 8232, 3) := by decide +kernel
theorem d_Table_table0_95 : decode b_Table_table0 95 = .ok (.bipush 22, 2) := by decide +kernel
theorem d_Table_table0_97 : decode b_Table_table0 97 = .ok (.invokevirtual 44, 3) := by decide +kernel
theorem d_Table_table0_100 : decode b_Table_table0 100 = .ok (.aload_n 0, 1) := by decide +kernel
theorem d_Table_table0_101 : decode b_Table_table0 101 = .ok (.sipush 8233, 3) := by decide +kernel
theorem d_Table_table0_104 : decode b_Table_table0 104 = .ok (.sipush 8233, 3) := by decide +kernel
theorem d_Table_table0_107 : decode b_Table_table0 107 = .ok (.bipush 23, 2) := by decide +kernel
theorem d_Table_table0_109 : decode b_Table_table0 109 = .ok (.invokevirtual 44, 3) := by decide +kernel
theorem d_Table_table0_112 : decode b_Table_table0 112 = .ok (.aload_n 0, 1) := by decide +kernel
theorem d_Table_table0_113 : decode b_Table_table0 113 = .ok (.bipush 33, 2) := by decide +kernel
theorem d_Table_table0_115 : decode b_Table_table0 115 = .ok (.bipush 35, 2) := by decide +kernel
theorem d_Table_table0_117 : decode b_Table_table0 117 = .ok (.bipush 16, 2) := by decide +kernel
theorem d_Table_table0_119 : decode b_Table_table0 119 = .ok (.invokevirtual 44, 3) := by decide +kernel
theorem d_Table_table0_122 : decode b_Table_table0 122 = .ok (.aload_n 0, 1) := by decide +kernel
theorem d_Table_table0_123 : decode b_Table_table0 123 = .ok (.bipush 37, 2) := by decide +kernel
theorem d_Table_table0_125 : decode b_Table_table0 125 = .ok (.bipush 39, 2) := by decide +kernel
theorem d_Table_table0_127 : decode b_Table_table0 127 = .ok (.bipush 16, 2) := by decide +kernel
theorem d_Table_table0_129 : decode b_Table_table0 129 = .ok (.invokevirtual 44, 3) := by decide +kernel
theorem d_Table_table0_132 : decode b_Table_table0 132 = .ok (.aload_n 0, 1) := by decide +kernel
theorem d_Table_table0_133 : decode b_Table_table0 133 = .ok (.bipush 42, 2) := by decide +kernel
theorem d_Table_table0_135 : decode b_Table_table0 135 = .ok (.bipush 42, 2) := by decide +kernel
theorem d_Table_table0_137 : decode b_Table_table0 137 = .ok (.bipush 16, 2) := by decide +kernel
theorem d_Table_table0_139 : decode b_Table_table0 139 = .ok (.invokevirtual 44, 3) := by decide +kernel
theorem d_Table_table0_142 : decode b_Table_table0 142 = .ok (.aload_n 0, 1) := by decide +kernel
theorem d_Table_table0_143 : decode b_Table_table0 143 = .ok (.bipush 44, 2) := by decide +kernel
theorem d_Table_table0_145 : decode b_Table_table0 145 = .ok (.bipush 44, 2) := by decide +kernel
theorem d_Table_table0_147 : decode b_Table_table0 147 = .ok (.bipush 16, 2) := by decide +kernel
theorem d_Table_table0_149 : decode b_Table_table0 149 = .ok (.invokevirtual 44, 3) := by decide +kernel
theorem d_Table_table0_152 : decode b_Table_table0 152 = .ok (.aload_n 0, 1) := by decide +kernel
theorem d_Table_table0_153 : decode b_Table_table0 153 = .ok (.bipush 46, 2) := by decide +kernel
theorem d_Table_table0_155 : decode b_Table_table0 155 = .ok (.bipush 47, 2) := by decide +kernel
theorem d_Table_table0_157 : decode b_Table_table0 157 = .ok (.bipush 16, 2) := by decide +kernel
theorem d_Table_table0_159 : decode b_Table_table0 159 = .ok (.invokevirtual 44, 3) := by decide +kernel
theorem d_Table_table0_162 : decode b_Table_table0 162 = .ok (.aload_n 0, 1) := by decide +kernel
theorem d_Table_table0_163 : decode b_Table_table0 163 = .ok (.bipush 58, 2) := by decide +kernel
theorem d_Table_table0_165 : decode b_Table_table0 165 = .ok (.bipush 59, 2) := by decide +kernel
theorem d_Table_table0_167 : decode b_Table_table0 167 = .ok (.bipush 16, 2) := by decide +kernel
theorem d_Table_table0_169 : decode b_Table_table0 169 = .ok (.invokevirtual 44, 3) := by decide +kernel
theorem d_Table_table0_172 : decode b_Table_table0 172 = .ok (.aload_n 0, 1) := by decide +kernel
theorem d_Table_table0_173 : decode b_Table_table0 173 = .ok (.bipush 63, 2) := by decide +kernel
theorem d_Table_table0_175 : decode b_Table_table0 175 = .ok (.bipush 64, 2) := by decide +kernel
theorem d_Table_table0_177 : decode b_Table_table0 177 = .ok (.bipush 16, 2) := by decide +kernel
theorem d_Table_table0_179 : decode b_Table_table0 179 = .ok (.invokevirtual 44, 3) := by decide +kernel
theorem d_Table_table0_182 : decode b_Table_table0 182 = .ok (.aload_n 0, 1) := by decide +kernel
theorem d_Table_table0_183 : decode b_Table_table0 183 = .ok (.bipush 92, 2) := by decide +kernel
theorem d_Table_table0_185 : decode b_Table_table0 185 = .ok (.bipush 92, 2) := by decide +kernel
theorem d_Table_table0_187 : decode b_Table_table0 187 = .ok (.bipush 16, 2) := by decide +kernel
theorem d_Table_table0_189 : decode b_Table_table0 189 = .ok (.invokevirtual 44, 3) := by decide +kernel
theorem d_Table_table0_192 : decode b_Table_table0 192 = .ok (.aload_n 0, 1) := by decide +kernel
theorem d_Table_table0_193 : decode b_Table_table0 193 = .ok (.sipush 161, 3) := by decide +kernel
theorem d_Table_table0_196 : decode b_Table_table0 196 = .ok (.sipush 161, 3) := by decide +kernel
theorem d_Table_table0_199 : decode b_Table_table0 199 = .ok (.bipush 16, 2) := by decide +kernel
theorem d_Table_table0_201 : decode b_Table_table0 201 = .ok (.invokevirtual 44, 3) := by decide +kernel
theorem d_Table_table0_204 : decode b_Table_table0 204 = .ok (.aload_n 0, 1) := by decide +kernel
theorem d_Table_table0_205 : decode b_Table_table0 205 = .ok (.sipush 167, 3) := by decide +kernel
theorem d_Table_table0_208 : decode b_Table_table0 208 = .ok (.sipush 167, 3) := by decide +kernel
theorem d_Table_table0_211 : decode b_Table_table0 211 = .ok (.bipush 16, 2) := by decide +kernel
theorem d_Table_table0_213 : decode b_Table_table0 213 = .ok (.invokevirtual 44, 3) := by decide +kernel
theorem d_Table_table0_216 : decode b_Table_table0 216 = .ok (.aload_n 0, 1) := by decide +kernel
theorem d_Table_table0_217 : decode b_Table_table0 217 = .ok (.sipush 182, 3) := by decide +kernel
theorem d_Table_table0_220 : decode b_Table_table0 220 = .ok (.sipush 183, 3) := by decide +kernel
theorem d_Table_table0_223 : decode b_Table_table0 223 = .ok (.bipush 16, 2) := by decide +kernel
theorem d_Table_table0_225 : decode b_Table_table0 225 = .ok (.invokevirtual 44, 3) := by decide +kernel
theorem d_Table_table0_228 : decode b_Table_table0 228 = .ok (.aload_n 0, 1) := by decide +kernel
theorem d_Table_table0_229 : decode b_Table_table0 229 = .ok (.sipush 191, 3) := by decide +kernel
theorem d_Table_table0_232 : decode b_Table_table0 232 = .ok (.sipush 191, 3) := by decide +kernel
theorem d_Table_table0_235 : decode b_Table_table0 235 = .ok (.bipush 16, 2) := by decide +kernel
theorem d_Table_table0_237 : decode b_Table_table0 237 = .ok (.invokevirtual 44, 3) := by decide +kernel
theorem d_Table_table0_240 : decode b_Table_table0 240 = .ok (.aload_n 0, 1) := by decide +kernel
theorem d_Table_table0_241 : decode b_Table_table0 241 = .ok (.sipush 8214, 3) := by decide +kernel
theorem d_Table_table0_244 : decode b_Table_table0 244 = .ok (.sipush 8215, 3) := by decide +kernel
theorem d_Table_table0_247 : decode b_Table_table0 247 = .ok (.bipush 16, 2) := by decide +kernel
theorem d_Table_table0_249 : decode b_Table_table0 249 = .ok (.invokevirtual 44, 3) := by decide +kernel
theorem d_Table_table0_252 : decode b_Table_table0 252 = .ok (.aload_n 0, 1) := by decide +kernel
theorem d_Table_table0_253 : decode b_Table_table0 253 = .ok (.sipush 8224, 3) := by decide +kernel
theorem d_Table_table0_256 : decode b_Table_table0 256 = .ok (.sipush 8231, 3) := by decide +kernel
theorem d_Table_table0_259 : decode b_Table_table0 259 = .ok (.bipush 16, 2) := by decide +kernel
theorem d_Table_table0_261 : decode b_Table_table0 261 = .ok (.invokevirtual 44, 3) := by decide +kernel
theorem d_Table_table0_264 : decode b_Table_table0 264 = .ok (.aload_n 0, 1) := by decide +kernel
theorem d_Table_table0_265 : decode b_Table_table0 265 = .ok (.bipush 36, 2) := by decide +kernel
theorem d_Table_table0_267 : decode b_Table_table0 267 = .ok (.bipush 36, 2) := by decide +kernel
theorem d_Table_table0_269 : decode b_Table_table0 269 = .ok (.bipush 18, 2) := by decide +kernel
theorem d_Table_table0_271 : decode b_Table_table0 271 = .ok (.invokevirtual 44, 3) := by decide +kernel
theorem d_Table_table0_274 : decode b_Table_table0 274 = .ok (.aload_n 0, 1) := by decide +kernel
theorem d_Table_table0_275 : decode b_Table_table0 275 = .ok (.sipush 162, 3) := by decide +kernel
theorem d_Table_table0_278 : decode b_Table_table0 278 = .ok (.sipush 165, 3) := by decide +kernel
theorem d_Table_table0_281 : decode b_Table_table0 281 = .ok (.bipush 18, 2) := by decide +kernel
theorem d_Table_table0_283 : decode b_Table_table0 283 = .ok (.invokevirtual 44, 3) := by decide +kernel
theorem d_Table_table0_286 : decode b_Table_table0 286 = .ok (.aload_n 0, 1) := by decide +kernel
theorem d_Table_table0_287 : decode b_Table_table0 287 = .ok (.sipush 8352, 3) := by decide +kernel
theorem d_Table_table0_290 : decode b_Table_table0 290 = .ok (.sipush 8383, 3) := by decide +kernel
theorem d_Table_table0_293 : decode b_Table_table0 293 = .ok (.bipush 18, 2) := by decide +kernel
theorem d_Table_table0_295 : decode b_Table_table0 295 = .ok (.invokevirtual 44, 3) := by decide +kernel
theorem d_Table_table0_298 : decode b_Table_table0 298 = .ok (.aload_n 0, 1) := by decide +kernel
theorem d_Table_table0_299 : decode b_Table_table0 299 = .ok (.bipush 40, 2) := by decide +kernel
theorem d_Table_table0_301 : decode b_Table_table0 301 = .ok (.bipush 40, 2) := by decide +kernel
theorem d_Table_table0_303 : decode b_Table_table0 303 = .ok (.bipush 17, 2) := by decide +kernel
theorem d_Table_table0_305 : decode b_Table_table0 305 = .ok (.invokevirtual 44, 3) := by decide +kernel
theorem d_Table_table0_308 : decode b_Table_table0 308 = .ok (.aload_n 0, 1) := by decide +kernel
theorem d_Table_table0_309 : decode b_Table_table0 309 = .ok (.bipush 91, 2) := by decide +kernel
theorem d_Table_table0_311 : decode b_Table_table0 311 = .ok (.bipush 91, 2) := by decide +kernel
theorem d_Table_table0_313 : decode b_Table_table0 313 = .ok (.bipush 17, 2) := by decide +kernel
theorem d_Table_table0_315 : decode b_Table_table0 315 = .ok (.invokevirtual 44, 3) := by decide +kernel
theorem d_Table_table0_318 : decode b_Table_table0 318 = .ok (.aload_n 0, 1) := by decide +kernel
theorem d_Table_table0_319 : decode b_Table_table0 319 = .ok (.bipush 123, 2) := by decide +kernel
theorem d_Table_table0_321 : decode b_Table_table0 321 = .ok (.bipush 123, 2) := by decide +kernel
theorem d_Table_table0_323 : decode b_Table_table0 323 = .ok (.bipush 17, 2) := by decide +kernel
theorem d_Table_table0_325 : decode b_Table_table0 325 = .ok (.invokevirtual 44, 3) := by decide +kernel
theorem d_Table_table0_328 : decode b_Table_table0 328 = .ok (.return_, 1) := by decide +kernel
abbrev b_Table_kinds : ByteArray := prog_16_method_3_code
abbrev y_Table_kinds : MethodName := ⟨"ReplacementWriterModel$Table", "kinds", "(III)V"⟩
theorem d_Table_kinds_0 : decode b_Table_kinds 0 = .ok (.iload_n 1, 1) := by decide +kernel
theorem d_Table_kinds_1 : decode b_Table_kinds 1 = .ok (.istore 4, 2) := by decide +kernel
theorem d_Table_kinds_3 : decode b_Table_kinds 3 = .ok (.iload 4, 2) := by decide +kernel
theorem d_Table_kinds_5 : decode b_Table_kinds 5 = .ok (.iload_n 2, 1) := by decide +kernel
theorem d_Table_kinds_6 : decode b_Table_kinds 6 = .ok (.if_icmp .gt 18, 3) := by decide +kernel
theorem d_Table_kinds_9 : decode b_Table_kinds 9 = .ok (.aload_n 0, 1) := by decide +kernel
theorem d_Table_kinds_10 : decode b_Table_kinds 10 = .ok (.getfield 7, 3) := by decide +kernel
theorem d_Table_kinds_13 : decode b_Table_kinds 13 = .ok (.iload 4, 2) := by decide +kernel
theorem d_Table_kinds_15 : decode b_Table_kinds 15 = .ok (.iload_n 3, 1) := by decide +kernel
theorem d_Table_kinds_16 : decode b_Table_kinds 16 = .ok (.i2b, 1) := by decide +kernel
theorem d_Table_kinds_17 : decode b_Table_kinds 17 = .ok (.bastore, 1) := by decide +kernel
theorem d_Table_kinds_18 : decode b_Table_kinds 18 = .ok (.iinc 4 1, 3) := by decide +kernel
theorem d_Table_kinds_21 : decode b_Table_kinds 21 = .ok (.goto (-18), 3) := by decide +kernel
theorem d_Table_kinds_24 : decode b_Table_kinds 24 = .ok (.return_, 1) := by decide +kernel
abbrev b_Table_table1 : ByteArray := prog_16_method_5_code
abbrev y_Table_table1 : MethodName := ⟨"ReplacementWriterModel$Table", "table1", "()V"⟩
theorem d_Table_table1_0 : decode b_Table_table1 0 = .ok (.aload_n 0, 1) := by decide +kernel
theorem d_Table_table1_1 : decode b_Table_table1 1 = .ok (.sipush 8218, 3) := by decide +kernel
theorem d_Table_table1_4 : decode b_Table_table1 4 = .ok (.sipush 8218, 3) := by decide +kernel
theorem d_Table_table1_7 : decode b_Table_table1 7 = .ok (.bipush 17, 2) := by decide +kernel
theorem d_Table_table1_9 : decode b_Table_table1 9 = .ok (.invokevirtual 44, 3) := by decide +kernel
theorem d_Table_table1_12 : decode b_Table_table1 12 = .ok (.aload_n 0, 1) := by decide +kernel
theorem d_Table_table1_13 : decode b_Table_table1 13 = .ok (.sipush 8222, 3) := by decide +kernel
theorem d_Table_table1_16 : decode b_Table_table1 16 = .ok (.sipush 8222, 3) := by decide +kernel
theorem d_Table_table1_19 : decode b_Table_table1 19 = .ok (.bipush 17, 2) := by decide +kernel
theorem d_Table_table1_21 : decode b_Table_table1 21 = .ok (.invokevirtual 44, 3) := by decide +kernel
theorem d_Table_table1_24 : decode b_Table_table1 24 = .ok (.aload_n 0, 1) := by decide +kernel
theorem d_Table_table1_25 : decode b_Table_table1 25 = .ok (.bipush 41, 2) := by decide +kernel
theorem d_Table_table1_27 : decode b_Table_table1 27 = .ok (.bipush 41, 2) := by decide +kernel
theorem d_Table_table1_29 : decode b_Table_table1 29 = .ok (.bipush 13, 2) := by decide +kernel
theorem d_Table_table1_31 : decode b_Table_table1 31 = .ok (.invokevirtual 44, 3) := by decide +kernel
theorem d_Table_table1_34 : decode b_Table_table1 34 = .ok (.aload_n 0, 1) := by decide +kernel
theorem d_Table_table1_35 : decode b_Table_table1 35 = .ok (.bipush 93, 2) := by decide +kernel
theorem d_Table_table1_37 : decode b_Table_table1 37 = .ok (.bipush 93, 2) := by decide +kernel
theorem d_Table_table1_39 : decode b_Table_table1 39 = .ok (.bipush 13, 2) := by decide +kernel
theorem d_Table_table1_41 : decode b_Table_table1 41 = .ok (.invokevirtual 44, 3) := by decide +kernel
theorem d_Table_table1_44 : decode b_Table_table1 44 = .ok (.aload_n 0, 1) := by decide +kernel
theorem d_Table_table1_45 : decode b_Table_table1 45 = .ok (.bipush 125, 2) := by decide +kernel
theorem d_Table_table1_47 : decode b_Table_table1 47 = .ok (.bipush 125, 2) := by decide +kernel
theorem d_Table_table1_49 : decode b_Table_table1 49 = .ok (.bipush 13, 2) := by decide +kernel
theorem d_Table_table1_51 : decode b_Table_table1 51 = .ok (.invokevirtual 44, 3) := by decide +kernel
theorem d_Table_table1_54 : decode b_Table_table1 54 = .ok (.aload_n 0, 1) := by decide +kernel
theorem d_Table_table1_55 : decode b_Table_table1 55 = .ok (.bipush 43, 2) := by decide +kernel
theorem d_Table_table1_57 : decode b_Table_table1 57 = .ok (.bipush 43, 2) := by decide +kernel
theorem d_Table_table1_59 : decode b_Table_table1 59 = .ok (.bipush 20, 2) := by decide +kernel
theorem d_Table_table1_61 : decode b_Table_table1 61 = .ok (.invokevirtual 44, 3) := by decide +kernel
theorem d_Table_table1_64 : decode b_Table_table1 64 = .ok (.aload_n 0, 1) := by decide +kernel
theorem d_Table_table1_65 : decode b_Table_table1 65 = .ok (.bipush 60, 2) := by decide +kernel
theorem d_Table_table1_67 : decode b_Table_table1 67 = .ok (.bipush 62, 2) := by decide +kernel
theorem d_Table_table1_69 : decode b_Table_table1 69 = .ok (.bipush 20, 2) := by decide +kernel
theorem d_Table_table1_71 : decode b_Table_table1 71 = .ok (.invokevirtual 44, 3) := by decide +kernel
theorem d_Table_table1_74 : decode b_Table_table1 74 = .ok (.aload_n 0, 1) := by decide +kernel
theorem d_Table_table1_75 : decode b_Table_table1 75 = .ok (.bipush 124, 2) := by decide +kernel
theorem d_Table_table1_77 : decode b_Table_table1 77 = .ok (.bipush 124, 2) := by decide +kernel
theorem d_Table_table1_79 : decode b_Table_table1 79 = .ok (.bipush 20, 2) := by decide +kernel
theorem d_Table_table1_81 : decode b_Table_table1 81 = .ok (.invokevirtual 44, 3) := by decide +kernel
theorem d_Table_table1_84 : decode b_Table_table1 84 = .ok (.aload_n 0, 1) := by decide +kernel
theorem d_Table_table1_85 : decode b_Table_table1 85 = .ok (.bipush 126, 2) := by decide +kernel
theorem d_Table_table1_87 : decode b_Table_table1 87 = .ok (.bipush 126, 2) := by decide +kernel
theorem d_Table_table1_89 : decode b_Table_table1 89 = .ok (.bipush 20, 2) := by decide +kernel
theorem d_Table_table1_91 : decode b_Table_table1 91 = .ok (.invokevirtual 44, 3) := by decide +kernel
theorem d_Table_table1_94 : decode b_Table_table1 94 = .ok (.aload_n 0, 1) := by decide +kernel
theorem d_Table_table1_95 : decode b_Table_table1 95 = .ok (.sipush 172, 3) := by decide +kernel
theorem d_Table_table1_98 : decode b_Table_table1 98 = .ok (.sipush 172, 3) := by decide +kernel
theorem d_Table_table1_101 : decode b_Table_table1 101 = .ok (.bipush 20, 2) := by decide +kernel
theorem d_Table_table1_103 : decode b_Table_table1 103 = .ok (.invokevirtual 44, 3) := by decide +kernel
theorem d_Table_table1_106 : decode b_Table_table1 106 = .ok (.aload_n 0, 1) := by decide +kernel
theorem d_Table_table1_107 : decode b_Table_table1 107 = .ok (.sipush 177, 3) := by decide +kernel
theorem d_Table_table1_110 : decode b_Table_table1 110 = .ok (.sipush 177, 3) := by decide +kernel
theorem d_Table_table1_113 : decode b_Table_table1 113 = .ok (.bipush 20, 2) := by decide +kernel
theorem d_Table_table1_115 : decode b_Table_table1 115 = .ok (.invokevirtual 44, 3) := by decide +kernel
theorem d_Table_table1_118 : decode b_Table_table1 118 = .ok (.aload_n 0, 1) := by decide +kernel
theorem d_Table_table1_119 : decode b_Table_table1 119 = .ok (.sipush 215, 3) := by decide +kernel
theorem d_Table_table1_122 : decode b_Table_table1 122 = .ok (.sipush 215, 3) := by decide +kernel
theorem d_Table_table1_125 : decode b_Table_table1 125 = .ok (.bipush 20, 2) := by decide +kernel
theorem d_Table_table1_127 : decode b_Table_table1 127 = .ok (.invokevirtual 44, 3) := by decide +kernel
theorem d_Table_table1_130 : decode b_Table_table1 130 = .ok (.aload_n 0, 1) := by decide +kernel
theorem d_Table_table1_131 : decode b_Table_table1 131 = .ok (.sipush 247, 3) := by decide +kernel
theorem d_Table_table1_134 : decode b_Table_table1 134 = .ok (.sipush 247, 3) := by decide +kernel
theorem d_Table_table1_137 : decode b_Table_table1 137 = .ok (.bipush 20, 2) := by decide +kernel
theorem d_Table_table1_139 : decode b_Table_table1 139 = .ok (.invokevirtual 44, 3) := by decide +kernel
theorem d_Table_table1_142 : decode b_Table_table1 142 = .ok (.aload_n 0, 1) := by decide +kernel
theorem d_Table_table1_143 : decode b_Table_table1 143 = .ok (.sipush 8592, 3) := by decide +kernel
theorem d_Table_table1_146 : decode b_Table_table1 146 = .ok (.sipush 8596, 3) := by decide +kernel
theorem d_Table_table1_149 : decode b_Table_table1 149 = .ok (.bipush 20, 2) := by decide +kernel
theorem d_Table_table1_151 : decode b_Table_table1 151 = .ok (.invokevirtual 44, 3) := by decide +kernel
theorem d_Table_table1_154 : decode b_Table_table1 154 = .ok (.aload_n 0, 1) := by decide +kernel
theorem d_Table_table1_155 : decode b_Table_table1 155 = .ok (.bipush 45, 2) := by decide +kernel
theorem d_Table_table1_157 : decode b_Table_table1 157 = .ok (.bipush 45, 2) := by decide +kernel
theorem d_Table_table1_159 : decode b_Table_table1 159 = .ok (.bipush 12, 2) := by decide +kernel
theorem d_Table_table1_161 : decode b_Table_table1 161 = .ok (.invokevirtual 44, 3) := by decide +kernel
theorem d_Table_table1_164 : decode b_Table_table1 164 = .ok (.aload_n 0, 1) := by decide +kernel
theorem d_Table_table1_165 : decode b_Table_table1 165 = .ok (.sipush 8208, 3) := by decide +kernel
theorem d_Table_table1_168 : decode b_Table_table1 168 = .ok (.sipush 8213, 3) := by decide +kernel
theorem d_Table_table1_171 : decode b_Table_table1 171 = .ok (.bipush 12, 2) := by decide +kernel
theorem d_Table_table1_173 : decode b_Table_table1 173 = .ok (.invokevirtual 44, 3) := by decide +kernel
theorem d_Table_table1_176 : decode b_Table_table1 176 = .ok (.aload_n 0, 1) := by decide +kernel
theorem d_Table_table1_177 : decode b_Table_table1 177 = .ok (.bipush 48, 2) := by decide +kernel
theorem d_Table_table1_179 : decode b_Table_table1 179 = .ok (.bipush 57, 2) := by decide +kernel
theorem d_Table_table1_181 : decode b_Table_table1 181 = .ok (.bipush 8, 2) := by decide +kernel
theorem d_Table_table1_183 : decode b_Table_table1 183 = .ok (.invokevirtual 44, 3) := by decide +kernel
theorem d_Table_table1_186 : decode b_Table_table1 186 = .ok (.aload_n 0, 1) := by decide +kernel
theorem d_Table_table1_187 : decode b_Table_table1 187 = .ok (.sipush 1632, 3) := by decide +kernel
theorem d_Table_table1_190 : decode b_Table_table1 190 = .ok (.sipush 1641, 3) := by decide +kernel
theorem d_Table_table1_193 : decode b_Table_table1 193 = .ok (.bipush 8, 2) := by decide +kernel
theorem d_Table_table1_195 : decode b_Table_table1 195 = .ok (.invokevirtual 44, 3) := by decide +kernel
theorem d_Table_table1_198 : decode b_Table_table1 198 = .ok (.aload_n 0, 1) := by decide +kernel
theorem d_Table_table1_199 : decode b_Table_table1 199 = .ok (.bipush 94, 2) := by decide +kernel
theorem d_Table_table1_201 : decode b_Table_table1 201 = .ok (.bipush 94, 2) := by decide +kernel
theorem d_Table_table1_203 : decode b_Table_table1 203 = .ok (.bipush 19, 2) := by decide +kernel
theorem d_Table_table1_205 : decode b_Table_table1 205 = .ok (.invokevirtual 44, 3) := by decide +kernel
theorem d_Table_table1_208 : decode b_Table_table1 208 = .ok (.aload_n 0, 1) := by decide +kernel
theorem d_Table_table1_209 : decode b_Table_table1 209 = .ok (.bipush 96, 2) := by decide +kernel
theorem d_Table_table1_211 : decode b_Table_table1 211 = .ok (.bipush 96, 2) := by decide +kernel
theorem d_Table_table1_213 : decode b_Table_table1 213 = .ok (.bipush 19, 2) := by decide +kernel
theorem d_Table_table1_215 : decode b_Table_table1 215 = .ok (.invokevirtual 44, 3) := by decide +kernel
theorem d_Table_table1_218 : decode b_Table_table1 218 = .ok (.aload_n 0, 1) := by decide +kernel
theorem d_Table_table1_219 : decode b_Table_table1 219 = .ok (.sipush 168, 3) := by decide +kernel
theorem d_Table_table1_222 : decode b_Table_table1 222 = .ok (.sipush 168, 3) := by decide +kernel
theorem d_Table_table1_225 : decode b_Table_table1 225 = .ok (.bipush 19, 2) := by decide +kernel
theorem d_Table_table1_227 : decode b_Table_table1 227 = .ok (.invokevirtual 44, 3) := by decide +kernel
theorem d_Table_table1_230 : decode b_Table_table1 230 = .ok (.aload_n 0, 1) := by decide +kernel
theorem d_Table_table1_231 : decode b_Table_table1 231 = .ok (.sipush 175, 3) := by decide +kernel
theorem d_Table_table1_234 : decode b_Table_table1 234 = .ok (.sipush 175, 3) := by decide +kernel
theorem d_Table_table1_237 : decode b_Table_table1 237 = .ok (.bipush 19, 2) := by decide +kernel
theorem d_Table_table1_239 : decode b_Table_table1 239 = .ok (.invokevirtual 44, 3) := by decide +kernel
theorem d_Table_table1_242 : decode b_Table_table1 242 = .ok (.aload_n 0, 1) := by decide +kernel
theorem d_Table_table1_243 : decode b_Table_table1 243 = .ok (.sipush 180, 3) := by decide +kernel
theorem d_Table_table1_246 : decode b_Table_table1 246 = .ok (.sipush 180, 3) := by decide +kernel
theorem d_Table_table1_249 : decode b_Table_table1 249 = .ok (.bipush 19, 2) := by decide +kernel
theorem d_Table_table1_251 : decode b_Table_table1 251 = .ok (.invokevirtual 44, 3) := by decide +kernel
theorem d_Table_table1_254 : decode b_Table_table1 254 = .ok (.aload_n 0, 1) := by decide +kernel
theorem d_Table_table1_255 : decode b_Table_table1 255 = .ok (.sipush 184, 3) := by decide +kernel
theorem d_Table_table1_258 : decode b_Table_table1 258 = .ok (.sipush 184, 3) := by decide +kernel
theorem d_Table_table1_261 : decode b_Table_table1 261 = .ok (.bipush 19, 2) := by decide +kernel
theorem d_Table_table1_263 : decode b_Table_table1 263 = .ok (.invokevirtual 44, 3) := by decide +kernel
theorem d_Table_table1_266 : decode b_Table_table1 266 = .ok (.aload_n 0, 1) := by decide +kernel
theorem d_Table_table1_267 : decode b_Table_table1 267 = .ok (.bipush 95, 2) := by decide +kernel
theorem d_Table_table1_269 : decode b_Table_table1 269 = .ok (.bipush 95, 2) := by decide +kernel
theorem d_Table_table1_271 : decode b_Table_table1 271 = .ok (.bipush 11, 2) := by decide +kernel
theorem d_Table_table1_273 : decode b_Table_table1 273 = .ok (.invokevirtual 44, 3) := by decide +kernel
theorem d_Table_table1_276 : decode b_Table_table1 276 = .ok (.aload_n 0, 1) := by decide +kernel
theorem d_Table_table1_277 : decode b_Table_table1 277 = .ok (.sipush 166, 3) := by decide +kernel
theorem d_Table_table1_280 : decode b_Table_table1 280 = .ok (.sipush 166, 3) := by decide +kernel
theorem d_Table_table1_283 : decode b_Table_table1 283 = .ok (.bipush 21, 2) := by decide +kernel
theorem d_Table_table1_285 : decode b_Table_table1 285 = .ok (.invokevirtual 44, 3) := by decide +kernel
theorem d_Table_table1_288 : decode b_Table_table1 288 = .ok (.aload_n 0, 1) := by decide +kernel
theorem d_Table_table1_289 : decode b_Table_table1 289 = .ok (.sipush 169, 3) := by decide +kernel
theorem d_Table_table1_292 : decode b_Table_table1 292 = .ok (.sipush 169, 3) := by decide +kernel
theorem d_Table_table1_295 : decode b_Table_table1 295 = .ok (.bipush 21, 2) := by decide +kernel
theorem d_Table_table1_297 : decode b_Table_table1 297 = .ok (.invokevirtual 44, 3) := by decide +kernel
theorem d_Table_table1_300 : decode b_Table_table1 300 = .ok (.aload_n 0, 1) := by decide +kernel
theorem d_Table_table1_301 : decode b_Table_table1 301 = .ok (.sipush 174, 3) := by decide +kernel
theorem d_Table_table1_304 : decode b_Table_table1 304 = .ok (.sipush 174, 3) := by decide +kernel
theorem d_Table_table1_307 : decode b_Table_table1 307 = .ok (.bipush 21, 2) := by decide +kernel
theorem d_Table_table1_309 : decode b_Table_table1 309 = .ok (.invokevirtual 44, 3) := by decide +kernel
theorem d_Table_table1_312 : decode b_Table_table1 312 = .ok (.aload_n 0, 1) := by decide +kernel
theorem d_Table_table1_313 : decode b_Table_table1 313 = .ok (.sipush 176, 3) := by decide +kernel
theorem d_Table_table1_316 : decode b_Table_table1 316 = .ok (.sipush 176, 3) := by decide +kernel
theorem d_Table_table1_319 : decode b_Table_table1 319 = .ok (.bipush 21, 2) := by decide +kernel
theorem d_Table_table1_321 : decode b_Table_table1 321 = .ok (.invokevirtual 44, 3) := by decide +kernel
theorem d_Table_table1_324 : decode b_Table_table1 324 = .ok (.aload_n 0, 1) := by decide +kernel
theorem d_Table_table1_325 : decode b_Table_table1 325 = .ok (.sipush 170, 3) := by decide +kernel
theorem d_Table_table1_328 : decode b_Table_table1 328 = .ok (.sipush 170, 3) := by decide +kernel
theorem d_Table_table1_331 : decode b_Table_table1 331 = .ok (.iconst 5, 1) := by decide +kernel
theorem d_Table_table1_332 : decode b_Table_table1 332 = .ok (.invokevirtual 44, 3) := by decide +kernel
theorem d_Table_table1_335 : decode b_Table_table1 335 = .ok (.return_, 1) := by decide +kernel
abbrev b_Table_table2 : ByteArray := prog_16_method_6_code
abbrev y_Table_table2 : MethodName := ⟨"ReplacementWriterModel$Table", "table2", "()V"⟩
theorem d_Table_table2_0 : decode b_Table_table2 0 = .ok (.aload_n 0, 1) := by decide +kernel
theorem d_Table_table2_1 : decode b_Table_table2 1 = .ok (.sipush 186, 3) := by decide +kernel
theorem d_Table_table2_4 : decode b_Table_table2 4 = .ok (.sipush 186, 3) := by decide +kernel
theorem d_Table_table2_7 : decode b_Table_table2 7 = .ok (.iconst 5, 1) := by decide +kernel
theorem d_Table_table2_8 : decode b_Table_table2 8 = .ok (.invokevirtual 44, 3) := by decide +kernel
theorem d_Table_table2_11 : decode b_Table_table2 11 = .ok (.aload_n 0, 1) := by decide +kernel
theorem d_Table_table2_12 : decode b_Table_table2 12 = .ok (.sipush 1488, 3) := by decide +kernel
theorem d_Table_table2_15 : decode b_Table_table2 15 = .ok (.sipush 1514, 3) := by decide +kernel
theorem d_Table_table2_18 : decode b_Table_table2 18 = .ok (.iconst 5, 1) := by decide +kernel
theorem d_Table_table2_19 : decode b_Table_table2 19 = .ok (.invokevirtual 44, 3) := by decide +kernel
theorem d_Table_table2_22 : decode b_Table_table2 22 = .ok (.aload_n 0, 1) := by decide +kernel
theorem d_Table_table2_23 : decode b_Table_table2 23 = .ok (.sipush 1568, 3) := by decide +kernel
theorem d_Table_table2_26 : decode b_Table_table2 26 = .ok (.sipush 1599, 3) := by decide +kernel
theorem d_Table_table2_29 : decode b_Table_table2 29 = .ok (.iconst 5, 1) := by decide +kernel
theorem d_Table_table2_30 : decode b_Table_table2 30 = .ok (.invokevirtual 44, 3) := by decide +kernel
theorem d_Table_table2_33 : decode b_Table_table2 33 = .ok (.aload_n 0, 1) := by decide +kernel
theorem d_Table_table2_34 : decode b_Table_table2 34 = .ok (.sipush 1601, 3) := by decide +kernel
theorem d_Table_table2_37 : decode b_Table_table2 37 = .ok (.sipush 1610, 3) := by decide +kernel
theorem d_Table_table2_40 : decode b_Table_table2 40 = .ok (.iconst 5, 1) := by decide +kernel
theorem d_Table_table2_41 : decode b_Table_table2 41 = .ok (.invokevirtual 44, 3) := by decide +kernel
theorem d_Table_table2_44 : decode b_Table_table2 44 = .ok (.aload_n 0, 1) := by decide +kernel
theorem d_Table_table2_45 : decode b_Table_table2 45 = .ok (.sipush 12353, 3) := by decide +kernel
theorem d_Table_table2_48 : decode b_Table_table2 48 = .ok (.sipush 12438, 3) := by decide +kernel
theorem d_Table_table2_51 : decode b_Table_table2 51 = .ok (.iconst 5, 1) := by decide +kernel
theorem d_Table_table2_52 : decode b_Table_table2 52 = .ok (.invokevirtual 44, 3) := by decide +kernel
theorem d_Table_table2_55 : decode b_Table_table2 55 = .ok (.aload_n 0, 1) := by decide +kernel
theorem d_Table_table2_56 : decode b_Table_table2 56 = .ok (.sipush 12449, 3) := by decide +kernel
theorem d_Table_table2_59 : decode b_Table_table2 59 = .ok (.sipush 12538, 3) := by decide +kernel
theorem d_Table_table2_62 : decode b_Table_table2 62 = .ok (.iconst 5, 1) := by decide +kernel
theorem d_Table_table2_63 : decode b_Table_table2 63 = .ok (.invokevirtual 44, 3) := by decide +kernel
theorem d_Table_table2_66 : decode b_Table_table2 66 = .ok (.aload_n 0, 1) := by decide +kernel
theorem d_Table_table2_67 : decode b_Table_table2 67 = .ok (.sipush 171, 3) := by decide +kernel
theorem d_Table_table2_70 : decode b_Table_table2 70 = .ok (.sipush 171, 3) := by decide +kernel
theorem d_Table_table2_73 : decode b_Table_table2 73 = .ok (.bipush 15, 2) := by decide +kernel
theorem d_Table_table2_75 : decode b_Table_table2 75 = .ok (.invokevirtual 44, 3) := by decide +kernel
theorem d_Table_table2_78 : decode b_Table_table2 78 = .ok (.aload_n 0, 1) := by decide +kernel
theorem d_Table_table2_79 : decode b_Table_table2 79 = .ok (.sipush 8216, 3) := by decide +kernel
theorem d_Table_table2_82 : decode b_Table_table2 82 = .ok (.sipush 8216, 3) := by decide +kernel
theorem d_Table_table2_85 : decode b_Table_table2 85 = .ok (.bipush 15, 2) := by decide +kernel
theorem d_Table_table2_87 : decode b_Table_table2 87 = .ok (.invokevirtual 44, 3) := by decide +kernel
theorem d_Table_table2_90 : decode b_Table_table2 90 = .ok (.aload_n 0, 1) := by decide +kernel
theorem d_Table_table2_91 : decode b_Table_table2 91 = .ok (.sipush 8219, 3) := by decide +kernel
theorem d_Table_table2_94 : decode b_Table_table2 94 = .ok (.sipush 8220, 3) := by decide +kernel
theorem d_Table_table2_97 : decode b_Table_table2 97 = .ok (.bipush 15, 2) := by decide +kernel
theorem d_Table_table2_99 : decode b_Table_table2 99 = .ok (.invokevirtual 44, 3) := by decide +kernel
theorem d_Table_table2_102 : decode b_Table_table2 102 = .ok (.aload_n 0, 1) := by decide +kernel
theorem d_Table_table2_103 : decode b_Table_table2 103 = .ok (.sipush 8223, 3) := by decide +kernel
theorem d_Table_table2_106 : decode b_Table_table2 106 = .ok (.sipush 8223, 3) := by decide +kernel
theorem d_Table_table2_109 : decode b_Table_table2 109 = .ok (.bipush 15, 2) := by decide +kernel
theorem d_Table_table2_111 : decode b_Table_table2 111 = .ok (.invokevirtual 44, 3) := by decide +kernel
theorem d_Table_table2_114 : decode b_Table_table2 114 = .ok (.aload_n 0, 1) := by decide +kernel
theorem d_Table_table2_115 : decode b_Table_table2 115 = .ok (.sipush 187, 3) := by decide +kernel
theorem d_Table_table2_118 : decode b_Table_table2 118 = .ok (.sipush 187, 3) := by decide +kernel
theorem d_Table_table2_121 : decode b_Table_table2 121 = .ok (.bipush 14, 2) := by decide +kernel
theorem d_Table_table2_123 : decode b_Table_table2 123 = .ok (.invokevirtual 44, 3) := by decide +kernel
theorem d_Table_table2_126 : decode b_Table_table2 126 = .ok (.aload_n 0, 1) := by decide +kernel
theorem d_Table_table2_127 : decode b_Table_table2 127 = .ok (.sipush 8217, 3) := by decide +kernel
theorem d_Table_table2_130 : decode b_Table_table2 130 = .ok (.sipush 8217, 3) := by decide +kernel
theorem d_Table_table2_133 : decode b_Table_table2 133 = .ok (.bipush 14, 2) := by decide +kernel
theorem d_Table_table2_135 : decode b_Table_table2 135 = .ok (.invokevirtual 44, 3) := by decide +kernel
theorem d_Table_table2_138 : decode b_Table_table2 138 = .ok (.aload_n 0, 1) := by decide +kernel
theorem d_Table_table2_139 : decode b_Table_table2 139 = .ok (.sipush 8221, 3) := by decide +kernel
theorem d_Table_table2_142 : decode b_Table_table2 142 = .ok (.sipush 8221, 3) := by decide +kernel
theorem d_Table_table2_145 : decode b_Table_table2 145 = .ok (.bipush 14, 2) := by decide +kernel
theorem d_Table_table2_147 : decode b_Table_table2 147 = .ok (.invokevirtual 44, 3) := by decide +kernel
theorem d_Table_table2_150 : decode b_Table_table2 150 = .ok (.aload_n 0, 1) := by decide +kernel
theorem d_Table_table2_151 : decode b_Table_table2 151 = .ok (.sipush 173, 3) := by decide +kernel
theorem d_Table_table2_154 : decode b_Table_table2 154 = .ok (.sipush 173, 3) := by decide +kernel
theorem d_Table_table2_157 : decode b_Table_table2 157 = .ok (.iconst 2, 1) := by decide +kernel
theorem d_Table_table2_158 : decode b_Table_table2 158 = .ok (.invokevirtual 44, 3) := by decide +kernel
theorem d_Table_table2_161 : decode b_Table_table2 161 = .ok (.aload_n 0, 1) := by decide +kernel
theorem d_Table_table2_162 : decode b_Table_table2 162 = .ok (.sipush 8203, 3) := by decide +kernel
theorem d_Table_table2_165 : decode b_Table_table2 165 = .ok (.sipush 8207, 3) := by decide +kernel
theorem d_Table_table2_168 : decode b_Table_table2 168 = .ok (.iconst 2, 1) := by decide +kernel
theorem d_Table_table2_169 : decode b_Table_table2 169 = .ok (.invokevirtual 44, 3) := by decide +kernel
theorem d_Table_table2_172 : decode b_Table_table2 172 = .ok (.aload_n 0, 1) := by decide +kernel
theorem d_Table_table2_173 : decode b_Table_table2 173 = .ok (.sipush 178, 3) := by decide +kernel
theorem d_Table_table2_176 : decode b_Table_table2 176 = .ok (.sipush 179, 3) := by decide +kernel
theorem d_Table_table2_179 : decode b_Table_table2 179 = .ok (.bipush 10, 2) := by decide +kernel
theorem d_Table_table2_181 : decode b_Table_table2 181 = .ok (.invokevirtual 44, 3) := by decide +kernel
theorem d_Table_table2_184 : decode b_Table_table2 184 = .ok (.aload_n 0, 1) := by decide +kernel
theorem d_Table_table2_185 : decode b_Table_table2 185 = .ok (.sipush 185, 3) := by decide +kernel
theorem d_Table_table2_188 : decode b_Table_table2 188 = .ok (.sipush 185, 3) := by decide +kernel
theorem d_Table_table2_191 : decode b_Table_table2 191 = .ok (.bipush 10, 2) := by decide +kernel
theorem d_Table_table2_193 : decode b_Table_table2 193 = .ok (.invokevirtual 44, 3) := by decide +kernel
theorem d_Table_table2_196 : decode b_Table_table2 196 = .ok (.aload_n 0, 1) := by decide +kernel
theorem d_Table_table2_197 : decode b_Table_table2 197 = .ok (.sipush 188, 3) := by decide +kernel
theorem d_Table_table2_200 : decode b_Table_table2 200 = .ok (.sipush 190, 3) := by decide +kernel
theorem d_Table_table2_203 : decode b_Table_table2 203 = .ok (.bipush 10, 2) := by decide +kernel
theorem d_Table_table2_205 : decode b_Table_table2 205 = .ok (.invokevirtual 44, 3) := by decide +kernel
theorem d_Table_table2_208 : decode b_Table_table2 208 = .ok (.aload_n 0, 1) := by decide +kernel
theorem d_Table_table2_209 : decode b_Table_table2 209 = .ok (.sipush 8544, 3) := by decide +kernel
theorem d_Table_table2_212 : decode b_Table_table2 212 = .ok (.sipush 8559, 3) := by decide +kernel
theorem d_Table_table2_215 : decode b_Table_table2 215 = .ok (.bipush 9, 2) := by decide +kernel
theorem d_Table_table2_217 : decode b_Table_table2 217 = .ok (.invokevirtual 44, 3) := by decide +kernel
theorem d_Table_table2_220 : decode b_Table_table2 220 = .ok (.aload_n 0, 1) := by decide +kernel
theorem d_Table_table2_221 : decode b_Table_table2 221 = .ok (.sipush 768, 3) := by decide +kernel
theorem d_Table_table2_224 : decode b_Table_table2 224 = .ok (.sipush 879, 3) := by decide +kernel
theorem d_Table_table2_227 : decode b_Table_table2 227 = .ok (.bipush 7, 2) := by decide +kernel
theorem d_Table_table2_229 : decode b_Table_table2 229 = .ok (.invokevirtual 44, 3) := by decide +kernel
theorem d_Table_table2_232 : decode b_Table_table2 232 = .ok (.aload_n 0, 1) := by decide +kernel
theorem d_Table_table2_233 : decode b_Table_table2 233 = .ok (.bipush 97, 2) := by decide +kernel
theorem d_Table_table2_235 : decode b_Table_table2 235 = .ok (.bipush 122, 2) := by decide +kernel
theorem d_Table_table2_237 : decode b_Table_table2 237 = .ok (.iconst 4, 1) := by decide +kernel
theorem d_Table_table2_238 : decode b_Table_table2 238 = .ok (.invokevirtual 44, 3) := by decide +kernel
theorem d_Table_table2_241 : decode b_Table_table2 241 = .ok (.aload_n 0, 1) := by decide +kernel
theorem d_Table_table2_242 : decode b_Table_table2 242 = .ok (.sipush 181, 3) := by decide +kernel
theorem d_Table_table2_245 : decode b_Table_table2 245 = .ok (.sipush 181, 3) := by decide +kernel
theorem d_Table_table2_248 : decode b_Table_table2 248 = .ok (.iconst 4, 1) := by decide +kernel
theorem d_Table_table2_249 : decode b_Table_table2 249 = .ok (.invokevirtual 44, 3) := by decide +kernel
theorem d_Table_table2_252 : decode b_Table_table2 252 = .ok (.aload_n 0, 1) := by decide +kernel
theorem d_Table_table2_253 : decode b_Table_table2 253 = .ok (.sipush 223, 3) := by decide +kernel
theorem d_Table_table2_256 : decode b_Table_table2 256 = .ok (.sipush 246, 3) := by decide +kernel
theorem d_Table_table2_259 : decode b_Table_table2 259 = .ok (.iconst 4, 1) := by decide +kernel
theorem d_Table_table2_260 : decode b_Table_table2 260 = .ok (.invokevirtual 44, 3) := by decide +kernel
theorem d_Table_table2_263 : decode b_Table_table2 263 = .ok (.aload_n 0, 1) := by decide +kernel
theorem d_Table_table2_264 : decode b_Table_table2 264 = .ok (.sipush 248, 3) := by decide +kernel
theorem d_Table_table2_267 : decode b_Table_table2 267 = .ok (.sipush 255, 3) := by decide +kernel
theorem d_Table_table2_270 : decode b_Table_table2 270 = .ok (.iconst 4, 1) := by decide +kernel
theorem d_Table_table2_271 : decode b_Table_table2 271 = .ok (.invokevirtual 44, 3) := by decide +kernel
theorem d_Table_table2_274 : decode b_Table_table2 274 = .ok (.aload_n 0, 1) := by decide +kernel
theorem d_Table_table2_275 : decode b_Table_table2 275 = .ok (.sipush 945, 3) := by decide +kernel
theorem d_Table_table2_278 : decode b_Table_table2 278 = .ok (.sipush 969, 3) := by decide +kernel
theorem d_Table_table2_281 : decode b_Table_table2 281 = .ok (.iconst 4, 1) := by decide +kernel
theorem d_Table_table2_282 : decode b_Table_table2 282 = .ok (.invokevirtual 44, 3) := by decide +kernel
theorem d_Table_table2_285 : decode b_Table_table2 285 = .ok (.aload_n 0, 1) := by decide +kernel
theorem d_Table_table2_286 : decode b_Table_table2 286 = .ok (.sipush 1072, 3) := by decide +kernel
theorem d_Table_table2_289 : decode b_Table_table2 289 = .ok (.sipush 1119, 3) := by decide +kernel
theorem d_Table_table2_292 : decode b_Table_table2 292 = .ok (.iconst 4, 1) := by decide +kernel
theorem d_Table_table2_293 : decode b_Table_table2 293 = .ok (.invokevirtual 44, 3) := by decide +kernel
theorem d_Table_table2_296 : decode b_Table_table2 296 = .ok (.aload_n 0, 1) := by decide +kernel
theorem d_Table_table2_297 : decode b_Table_table2 297 = .ok (.sipush 256, 3) := by decide +kernel
theorem d_Table_table2_300 : decode b_Table_table2 300 = .ok (.sipush 383, 3) := by decide +kernel
theorem d_Table_table2_303 : decode b_Table_table2 303 = .ok (.iconst 4, 1) := by decide +kernel
theorem d_Table_table2_304 : decode b_Table_table2 304 = .ok (.invokevirtual 44, 3) := by decide +kernel
theorem d_Table_table2_307 : decode b_Table_table2 307 = .ok (.aload_n 0, 1) := by decide +kernel
theorem d_Table_table2_308 : decode b_Table_table2 308 = .ok (.bipush 65, 2) := by decide +kernel
theorem d_Table_table2_310 : decode b_Table_table2 310 = .ok (.bipush 90, 2) := by decide +kernel
theorem d_Table_table2_312 : decode b_Table_table2 312 = .ok (.bipush 6, 2) := by decide +kernel
theorem d_Table_table2_314 : decode b_Table_table2 314 = .ok (.invokevirtual 44, 3) := by decide +kernel
theorem d_Table_table2_317 : decode b_Table_table2 317 = .ok (.aload_n 0, 1) := by decide +kernel
theorem d_Table_table2_318 : decode b_Table_table2 318 = .ok (.sipush 192, 3) := by decide +kernel
theorem d_Table_table2_321 : decode b_Table_table2 321 = .ok (.sipush 214, 3) := by decide +kernel
theorem d_Table_table2_324 : decode b_Table_table2 324 = .ok (.bipush 6, 2) := by decide +kernel
theorem d_Table_table2_326 : decode b_Table_table2 326 = .ok (.invokevirtual 44, 3) := by decide +kernel
theorem d_Table_table2_329 : decode b_Table_table2 329 = .ok (.aload_n 0, 1) := by decide +kernel
theorem d_Table_table2_330 : decode b_Table_table2 330 = .ok (.sipush 216, 3) := by decide +kernel
theorem d_Table_table2_333 : decode b_Table_table2 333 = .ok (.sipush 222, 3) := by decide +kernel
theorem d_Table_table2_336 : decode b_Table_table2 336 = .ok (.bipush 6, 2) := by decide +kernel
theorem d_Table_table2_338 : decode b_Table_table2 338 = .ok (.invokevirtual 44, 3) := by decide +kernel
theorem d_Table_table2_341 : decode b_Table_table2 341 = .ok (.return_, 1) := by decide +kernel
abbrev b_Table_table3 : ByteArray := prog_16_method_7_code
abbrev y_Table_table3 : MethodName := ⟨"ReplacementWriterModel$Table", "table3", "()V"⟩
theorem d_Table_table3_0 : decode b_Table_table3 0 = .ok (.aload_n 0, 1) := by decide +kernel
theorem d_Table_table3_1 : decode b_Table_table3 1 = .ok (.sipush 913, 3) := by decide +kernel
theorem d_Table_table3_4 : decode b_Table_table3 4 = .ok (.sipush 929, 3) := by decide +kernel
theorem d_Table_table3_7 : decode b_Table_table3 7 = .ok (.bipush 6, 2) := by decide +kernel
theorem d_Table_table3_9 : decode b_Table_table3 9 = .ok (.invokevirtual 44, 3) := by decide +kernel
theorem d_Table_table3_12 : decode b_Table_table3 12 = .ok (.aload_n 0, 1) := by decide +kernel
theorem d_Table_table3_13 : decode b_Table_table3 13 = .ok (.sipush 931, 3) := by decide +kernel
theorem d_Table_table3_16 : decode b_Table_table3 16 = .ok (.sipush 937, 3) := by decide +kernel
theorem d_Table_table3_19 : decode b_Table_table3 19 = .ok (.bipush 6, 2) := by decide +kernel
theorem d_Table_table3_21 : decode b_Table_table3 21 = .ok (.invokevirtual 44, 3) := by decide +kernel
theorem d_Table_table3_24 : decode b_Table_table3 24 = .ok (.aload_n 0, 1) := by decide +kernel
theorem d_Table_table3_25 : decode b_Table_table3 25 = .ok (.sipush 1024, 3) := by decide +kernel
theorem d_Table_table3_28 : decode b_Table_table3 28 = .ok (.sipush 1071, 3) := by decide +kernel
theorem d_Table_table3_31 : decode b_Table_table3 31 = .ok (.bipush 6, 2) := by decide +kernel
theorem d_Table_table3_33 : decode b_Table_table3 33 = .ok (.invokevirtual 44, 3) := by decide +kernel
theorem d_Table_table3_36 : decode b_Table_table3 36 = .ok (.aload_n 0, 1) := by decide +kernel
theorem d_Table_table3_37 : decode b_Table_table3 37 = .ok (.sipush 376, 3) := by decide +kernel
theorem d_Table_table3_40 : decode b_Table_table3 40 = .ok (.sipush 376, 3) := by decide +kernel
theorem d_Table_table3_43 : decode b_Table_table3 43 = .ok (.bipush 6, 2) := by decide +kernel
theorem d_Table_table3_45 : decode b_Table_table3 45 = .ok (.invokevirtual 44, 3) := by decide +kernel
theorem d_Table_table3_48 : decode b_Table_table3 48 = .ok (.aload_n 0, 1) := by decide +kernel
theorem d_Table_table3_49 : decode b_Table_table3 49 = .ok (.sipush 8490, 3) := by decide +kernel
theorem d_Table_table3_52 : decode b_Table_table3 52 = .ok (.sipush 8490, 3) := by decide +kernel
theorem d_Table_table3_55 : decode b_Table_table3 55 = .ok (.bipush 6, 2) := by decide +kernel
theorem d_Table_table3_57 : decode b_Table_table3 57 = .ok (.invokevirtual 44, 3) := by decide +kernel
theorem d_Table_table3_60 : decode b_Table_table3 60 = .ok (.aload_n 0, 1) := by decide +kernel
theorem d_Table_table3_61 : decode b_Table_table3 61 = .ok (.sipush 8491, 3) := by decide +kernel
theorem d_Table_table3_64 : decode b_Table_table3 64 = .ok (.sipush 8491, 3) := by decide +kernel
theorem d_Table_table3_67 : decode b_Table_table3 67 = .ok (.bipush 6, 2) := by decide +kernel
theorem d_Table_table3_69 : decode b_Table_table3 69 = .ok (.invokevirtual 44, 3) := by decide +kernel
theorem d_Table_table3_72 : decode b_Table_table3 72 = .ok (.return_, 1) := by decide +kernel
abbrev b_Table_mode : ByteArray := prog_16_method_2_code
abbrev y_Table_mode : MethodName := ⟨"ReplacementWriterModel$Table", "mode", "(ZZ)V"⟩
theorem d_Table_mode_0 : decode b_Table_mode 0 = .ok (.aload_n 0, 1) := by decide +kernel
theorem d_Table_mode_1 : decode b_Table_mode 1 = .ok (.iload_n 1, 1) := by decide +kernel
theorem d_Table_mode_2 : decode b_Table_mode 2 = .ok (.putfield 13, 3) := by decide +kernel
theorem d_Table_mode_5 : decode b_Table_mode 5 = .ok (.aload_n 0, 1) := by decide +kernel
theorem d_Table_mode_6 : decode b_Table_mode 6 = .ok (.iload_n 2, 1) := by decide +kernel
theorem d_Table_mode_7 : decode b_Table_mode 7 = .ok (.putfield 17, 3) := by decide +kernel
theorem d_Table_mode_10 : decode b_Table_mode 10 = .ok (.aload_n 0, 1) := by decide +kernel
theorem d_Table_mode_11 : decode b_Table_mode 11 = .ok (.iload_n 1, 1) := by decide +kernel
theorem d_Table_mode_12 : decode b_Table_mode 12 = .ok (.ifCond .eq 8, 3) := by decide +kernel
theorem d_Table_mode_15 : decode b_Table_mode 15 = .ok (.ldc 43, 2) := by decide +kernel
theorem d_Table_mode_17 : decode b_Table_mode 17 = .ok (.goto 6, 3) := by decide +kernel
theorem d_Table_mode_20 : decode b_Table_mode 20 = .ok (.sipush 255, 3) := by decide +kernel
theorem d_Table_mode_23 : decode b_Table_mode 23 = .ok (.putfield 20, 3) := by decide +kernel
theorem d_Table_mode_26 : decode b_Table_mode 26 = .ok (.return_, 1) := by decide +kernel
abbrev b_Table_upper : ByteArray := prog_16_method_16_code
abbrev y_Table_upper : MethodName := ⟨"ReplacementWriterModel$Table", "upper", "(I)I"⟩
theorem d_Table_upper_0 : decode b_Table_upper 0 = .ok (.aload_n 0, 1) := by decide +kernel
theorem d_Table_upper_1 : decode b_Table_upper 1 = .ok (.iload_n 1, 1) := by decide +kernel
theorem d_Table_upper_2 : decode b_Table_upper 2 = .ok (.invokevirtual 57, 3) := by decide +kernel
theorem d_Table_upper_5 : decode b_Table_upper 5 = .ok (.iconst 4, 1) := by decide +kernel
theorem d_Table_upper_6 : decode b_Table_upper 6 = .ok (.if_icmp .eq 5, 3) := by decide +kernel
theorem d_Table_upper_9 : decode b_Table_upper 9 = .ok (.iload_n 1, 1) := by decide +kernel
theorem d_Table_upper_10 : decode b_Table_upper 10 = .ok (.ireturn, 1) := by decide +kernel
theorem d_Table_upper_11 : decode b_Table_upper 11 = .ok (.aload_n 0, 1) := by decide +kernel
theorem d_Table_upper_12 : decode b_Table_upper 12 = .ok (.iload_n 1, 1) := by decide +kernel
theorem d_Table_upper_13 : decode b_Table_upper 13 = .ok (.invokevirtual 78, 3) := by decide +kernel
theorem d_Table_upper_16 : decode b_Table_upper 16 = .ok (.iload_n 1, 1) := by decide +kernel
theorem d_Table_upper_17 : decode b_Table_upper 17 = .ok (.istore_n 2, 1) := by decide +kernel
theorem d_Table_upper_18 : decode b_Table_upper 18 = .ok (.iconst 0, 1) := by decide +kernel
theorem d_Table_upper_19 : decode b_Table_upper 19 = .ok (.istore_n 3, 1) := by decide +kernel
theorem d_Table_upper_20 : decode b_Table_upper 20 = .ok (.iload_n 3, 1) := by decide +kernel
theorem d_Table_upper_21 : decode b_Table_upper 21 = .ok (.aload_n 0, 1) := by decide +kernel
theorem d_Table_upper_22 : decode b_Table_upper 22 = .ok (.getfield 28, 3) := by decide +kernel
theorem d_Table_upper_25 : decode b_Table_upper 25 = .ok (.if_icmp .ge 46, 3) := by decide +kernel
theorem d_Table_upper_28 : decode b_Table_upper 28 = .ok (.aload_n 0, 1) := by decide +kernel
theorem d_Table_upper_29 : decode b_Table_upper 29 = .ok (.aload_n 0, 1) := by decide +kernel
theorem d_Table_upper_30 : decode b_Table_upper 30 = .ok (.getfield 24, 3) := by decide +kernel
theorem d_Table_upper_33 : decode b_Table_upper 33 = .ok (.iload_n 3, 1) := by decide +kernel
theorem d_Table_upper_34 : decode b_Table_upper 34 = .ok (.iaload, 1) := by decide +kernel
theorem d_Table_upper_35 : decode b_Table_upper 35 = .ok (.invokevirtual 57, 3) := by decide +kernel
theorem d_Table_upper_38 : decode b_Table_upper 38 = .ok (.bipush 6, 2) := by decide +kernel
theorem d_Table_upper_40 : decode b_Table_upper 40 = .ok (.if_icmp .ne 25, 3) := by decide +kernel
theorem d_Table_upper_43 : decode b_Table_upper 43 = .ok (.iload_n 2, 1) := by decide +kernel
theorem d_Table_upper_44 : decode b_Table_upper 44 = .ok (.iload_n 1, 1) := by decide +kernel
theorem d_Table_upper_45 : decode b_Table_upper 45 = .ok (.if_icmp .eq 13, 3) := by decide +kernel
theorem d_Table_upper_48 : decode b_Table_upper 48 = .ok (.aload_n 0, 1) := by decide +kernel
theorem d_Table_upper_49 : decode b_Table_upper 49 = .ok (.getfield 24, 3) := by decide +kernel
theorem d_Table_upper_52 : decode b_Table_upper 52 = .ok (.iload_n 3, 1) := by decide +kernel
theorem d_Table_upper_53 : decode b_Table_upper 53 = .ok (.iaload, 1) := by decide +kernel
theorem d_Table_upper_54 : decode b_Table_upper 54 = .ok (.iload_n 2, 1) := by decide +kernel
theorem d_Table_upper_55 : decode b_Table_upper 55 = .ok (.if_icmp .ge 10, 3) := by decide +kernel
theorem d_Table_upper_58 : decode b_Table_upper 58 = .ok (.aload_n 0, 1) := by decide +kernel
theorem d_Table_upper_59 : decode b_Table_upper 59 = .ok (.getfield 24, 3) := by decide +kernel
theorem d_Table_upper_62 : decode b_Table_upper 62 = .ok (.iload_n 3, 1) := by decide +kernel
theorem d_Table_upper_63 : decode b_Table_upper 63 = .ok (.iaload, 1) := by decide +kernel
theorem d_Table_upper_64 : decode b_Table_upper 64 = .ok (.istore_n 2, 1) := by decide +kernel
theorem d_Table_upper_65 : decode b_Table_upper 65 = .ok (.iinc 3 1, 3) := by decide +kernel
theorem d_Table_upper_68 : decode b_Table_upper 68 = .ok (.goto (-48), 3) := by decide +kernel
theorem d_Table_upper_71 : decode b_Table_upper 71 = .ok (.iload_n 2, 1) := by decide +kernel
theorem d_Table_upper_72 : decode b_Table_upper 72 = .ok (.ireturn, 1) := by decide +kernel
abbrev b_Table_category : ByteArray := prog_16_method_8_code
abbrev y_Table_category : MethodName := ⟨"ReplacementWriterModel$Table", "category", "(I)I"⟩
theorem d_Table_category_0 : decode b_Table_category 0 = .ok (.iload_n 1, 1) := by decide +kernel
theorem d_Table_category_1 : decode b_Table_category 1 = .ok (.sipush 12544, 3) := by decide +kernel
theorem d_Table_category_4 : decode b_Table_category 4 = .ok (.if_icmp .ge 10, 3) := by decide +kernel
theorem d_Table_category_7 : decode b_Table_category 7 = .ok (.aload_n 0, 1) := by decide +kernel
theorem d_Table_category_8 : decode b_Table_category 8 = .ok (.getfield 7, 3) := by decide +kernel
theorem d_Table_category_11 : decode b_Table_category 11 = .ok (.iload_n 1, 1) := by decide +kernel
theorem d_Table_category_12 : decode b_Table_category 12 = .ok (.baload, 1) := by decide +kernel
theorem d_Table_category_13 : decode b_Table_category 13 = .ok (.ireturn, 1) := by decide +kernel
theorem d_Table_category_14 : decode b_Table_category 14 = .ok (.iload_n 1, 1) := by decide +kernel
theorem d_Table_category_15 : decode b_Table_category 15 = .ok (.sipush 19968, 3) := by decide +kernel
theorem d_Table_category_18 : decode b_Table_category 18 = .ok (.if_icmp .lt 9, 3) := by decide +kernel
theorem d_Table_category_21 : decode b_Table_category 21 = .ok (.iload_n 1, 1) := by decide +kernel
theorem d_Table_category_22 : decode b_Table_category 22 = .ok (.ldc 48, 2) := by decide +kernel
theorem d_Table_category_24 : decode b_Table_category 24 = .ok (.if_icmp .le 15, 3) := by decide +kernel
theorem d_Table_category_27 : decode b_Table_category 27 = .ok (.iload_n 1, 1) := by decide +kernel
theorem d_Table_category_28 : decode b_Table_category 28 = .ok (.ldc 49, 2) := by decide +kernel
theorem d_Table_category_30 : decode b_Table_category 30 = .ok (.if_icmp .lt 11, 3) := by decide +kernel
theorem d_Table_category_33 : decode b_Table_category 33 = .ok (.iload_n 1, 1) := by decide +kernel
theorem d_Table_category_34 : decode b_Table_category 34 = .ok (.ldc 50, 2) := by decide +kernel
theorem d_Table_category_36 : decode b_Table_category 36 = .ok (.if_icmp .gt 5, 3) := by decide +kernel
theorem d_Table_category_39 : decode b_Table_category 39 = .ok (.iconst 5, 1) := by decide +kernel
theorem d_Table_category_40 : decode b_Table_category 40 = .ok (.ireturn, 1) := by decide +kernel
theorem d_Table_category_41 : decode b_Table_category 41 = .ok (.iload_n 1, 1) := by decide +kernel
theorem d_Table_category_42 : decode b_Table_category 42 = .ok (.ldc 51, 2) := by decide +kernel
theorem d_Table_category_44 : decode b_Table_category 44 = .ok (.if_icmp .lt 11, 3) := by decide +kernel
theorem d_Table_category_47 : decode b_Table_category 47 = .ok (.iload_n 1, 1) := by decide +kernel
theorem d_Table_category_48 : decode b_Table_category 48 = .ok (.ldc 52, 2) := by decide +kernel
theorem d_Table_category_50 : decode b_Table_category 50 = .ok (.if_icmp .gt 5, 3) := by decide +kernel
theorem d_Table_category_53 : decode b_Table_category 53 = .ok (.iconst 3, 1) := by decide +kernel
theorem d_Table_category_54 : decode b_Table_category 54 = .ok (.ireturn, 1) := by decide +kernel
theorem d_Table_category_55 : decode b_Table_category 55 = .ok (.iload_n 1, 1) := by decide +kernel
theorem d_Table_category_56 : decode b_Table_category 56 = .ok (.ldc 53, 2) := by decide +kernel
theorem d_Table_category_58 : decode b_Table_category 58 = .ok (.if_icmp .ne 6, 3) := by decide +kernel
theorem d_Table_category_61 : decode b_Table_category 61 = .ok (.bipush 7, 2) := by decide +kernel
theorem d_Table_category_63 : decode b_Table_category 63 = .ok (.ireturn, 1) := by decide +kernel
theorem d_Table_category_64 : decode b_Table_category 64 = .ok (.iload_n 1, 1) := by decide +kernel
theorem d_Table_category_65 : decode b_Table_category 65 = .ok (.ldc 54, 2) := by decide +kernel
theorem d_Table_category_67 : decode b_Table_category 67 = .ok (.if_icmp .ne 5, 3) := by decide +kernel
theorem d_Table_category_70 : decode b_Table_category 70 = .ok (.iconst 2, 1) := by decide +kernel
theorem d_Table_category_71 : decode b_Table_category 71 = .ok (.ireturn, 1) := by decide +kernel
theorem d_Table_category_72 : decode b_Table_category 72 = .ok (.iload_n 1, 1) := by decide +kernel
theorem d_Table_category_73 : decode b_Table_category 73 = .ok (.ldc 55, 2) := by decide +kernel
theorem d_Table_category_75 : decode b_Table_category 75 = .ok (.if_icmp .lt 14, 3) := by decide +kernel
theorem d_Table_category_78 : decode b_Table_category 78 = .ok (.iload_n 1, 1) := by decide +kernel
theorem d_Table_category_79 : decode b_Table_category 79 = .ok (.ldc 56, 2) := by decide +kernel
theorem d_Table_category_81 : decode b_Table_category 81 = .ok (.if_icmp .gt 8, 3) := by decide +kernel
theorem d_Table_category_84 : decode b_Table_category 84 = .ok (.bipush 21, 2) := by decide +kernel
theorem d_Table_category_86 : decode b_Table_category 86 = .ok (.goto 4, 3) := by decide +kernel
theorem d_Table_category_89 : decode b_Table_category 89 = .ok (.iconst 0, 1) := by decide +kernel
theorem d_Table_category_90 : decode b_Table_category 90 = .ok (.ireturn, 1) := by decide +kernel
abbrev b_Table_caseOf : ByteArray := prog_16_method_15_code
abbrev y_Table_caseOf : MethodName := ⟨"ReplacementWriterModel$Table", "caseOf", "(I)V"⟩
theorem d_Table_caseOf_0 : decode b_Table_caseOf 0 = .ok (.aload_n 0, 1) := by decide +kernel
theorem d_Table_caseOf_1 : decode b_Table_caseOf 1 = .ok (.iconst 0, 1) := by decide +kernel
theorem d_Table_caseOf_2 : decode b_Table_caseOf 2 = .ok (.putfield 28, 3) := by decide +kernel
theorem d_Table_caseOf_5 : decode b_Table_caseOf 5 = .ok (.aload_n 0, 1) := by decide +kernel
theorem d_Table_caseOf_6 : decode b_Table_caseOf 6 = .ok (.getfield 13, 3) := by decide +kernel
theorem d_Table_caseOf_9 : decode b_Table_caseOf 9 = .ok (.ifCond .ne 14, 3) := by decide +kernel
theorem d_Table_caseOf_12 : decode b_Table_caseOf 12 = .ok (.aload_n 0, 1) := by decide +kernel
theorem d_Table_caseOf_13 : decode b_Table_caseOf 13 = .ok (.getfield 17, 3) := by decide +kernel
theorem d_Table_caseOf_16 : decode b_Table_caseOf 16 = .ok (.ifCond .ne 7, 3) := by decide +kernel
theorem d_Table_caseOf_19 : decode b_Table_caseOf 19 = .ok (.iconst 1, 1) := by decide +kernel
theorem d_Table_caseOf_20 : decode b_Table_caseOf 20 = .ok (.goto 4, 3) := by decide +kernel
theorem d_Table_caseOf_23 : decode b_Table_caseOf 23 = .ok (.iconst 0, 1) := by decide +kernel
theorem d_Table_caseOf_24 : decode b_Table_caseOf 24 = .ok (.istore_n 2, 1) := by decide +kernel
theorem d_Table_caseOf_25 : decode b_Table_caseOf 25 = .ok (.iload_n 1, 1) := by decide +kernel
theorem d_Table_caseOf_26 : decode b_Table_caseOf 26 = .ok (.sipush 8704, 3) := by decide +kernel
theorem d_Table_caseOf_29 : decode b_Table_caseOf 29 = .ok (.if_icmp .le 7, 3) := by decide +kernel
theorem d_Table_caseOf_32 : decode b_Table_caseOf 32 = .ok (.iload_n 1, 1) := by decide +kernel
theorem d_Table_caseOf_33 : decode b_Table_caseOf 33 = .ok (.goto 8, 3) := by decide +kernel
theorem d_Table_caseOf_36 : decode b_Table_caseOf 36 = .ok (.aload_n 0, 1) := by decide +kernel
theorem d_Table_caseOf_37 : decode b_Table_caseOf 37 = .ok (.iload_n 1, 1) := by decide +kernel
theorem d_Table_caseOf_38 : decode b_Table_caseOf 38 = .ok (.invokevirtual 71, 3) := by decide +kernel
theorem d_Table_caseOf_41 : decode b_Table_caseOf 41 = .ok (.istore_n 3, 1) := by decide +kernel
theorem d_Table_caseOf_42 : decode b_Table_caseOf 42 = .ok (.iload_n 2, 1) := by decide +kernel
theorem d_Table_caseOf_43 : decode b_Table_caseOf 43 = .ok (.ifCond .eq 21, 3) := by decide +kernel
theorem d_Table_caseOf_46 : decode b_Table_caseOf 46 = .ok (.aload_n 0, 1) := by decide +kernel
theorem d_Table_caseOf_47 : decode b_Table_caseOf 47 = .ok (.iload_n 3, 1) := by decide +kernel
theorem d_Table_caseOf_48 : decode b_Table_caseOf 48 = .ok (.bipush 65, 2) := by decide +kernel
theorem d_Table_caseOf_50 : decode b_Table_caseOf 50 = .ok (.bipush 90, 2) := by decide +kernel
theorem d_Table_caseOf_52 : decode b_Table_caseOf 52 = .ok (.invokevirtual 61, 3) := by decide +kernel
theorem d_Table_caseOf_55 : decode b_Table_caseOf 55 = .ok (.ifCond .ne 9, 3) := by decide +kernel
theorem d_Table_caseOf_58 : decode b_Table_caseOf 58 = .ok (.aload_n 0, 1) := by decide +kernel
theorem d_Table_caseOf_59 : decode b_Table_caseOf 59 = .ok (.iload_n 1, 1) := by decide +kernel
theorem d_Table_caseOf_60 : decode b_Table_caseOf 60 = .ok (.invokevirtual 74, 3) := by decide +kernel
theorem d_Table_caseOf_63 : decode b_Table_caseOf 63 = .ok (.return_, 1) := by decide +kernel
theorem d_Table_caseOf_64 : decode b_Table_caseOf 64 = .ok (.aload_n 0, 1) := by decide +kernel
theorem d_Table_caseOf_65 : decode b_Table_caseOf 65 = .ok (.iload_n 3, 1) := by decide +kernel
theorem d_Table_caseOf_66 : decode b_Table_caseOf 66 = .ok (.invokevirtual 74, 3) := by decide +kernel
theorem d_Table_caseOf_69 : decode b_Table_caseOf 69 = .ok (.iload_n 3, 1) := by decide +kernel
theorem d_Table_caseOf_70 : decode b_Table_caseOf 70 = .ok (.sipush 376, 3) := by decide +kernel
theorem d_Table_caseOf_73 : decode b_Table_caseOf 73 = .ok (.if_icmp .ne 13, 3) := by decide +kernel
theorem d_Table_caseOf_76 : decode b_Table_caseOf 76 = .ok (.aload_n 0, 1) := by decide +kernel
theorem d_Table_caseOf_77 : decode b_Table_caseOf 77 = .ok (.sipush 255, 3) := by decide +kernel
theorem d_Table_caseOf_80 : decode b_Table_caseOf 80 = .ok (.invokevirtual 74, 3) := by decide +kernel
theorem d_Table_caseOf_83 : decode b_Table_caseOf 83 = .ok (.goto 29, 3) := by decide +kernel
theorem d_Table_caseOf_86 : decode b_Table_caseOf 86 = .ok (.iload_n 3, 1) := by decide +kernel
theorem d_Table_caseOf_87 : decode b_Table_caseOf 87 = .ok (.sipush 8704, 3) := by decide +kernel
theorem d_Table_caseOf_90 : decode b_Table_caseOf 90 = .ok (.if_icmp .gt 22, 3) := by decide +kernel
theorem d_Table_caseOf_93 : decode b_Table_caseOf 93 = .ok (.aload_n 0, 1) := by decide +kernel
theorem d_Table_caseOf_94 : decode b_Table_caseOf 94 = .ok (.iload_n 3, 1) := by decide +kernel
theorem d_Table_caseOf_95 : decode b_Table_caseOf 95 = .ok (.invokevirtual 68, 3) := by decide +kernel
theorem d_Table_caseOf_98 : decode b_Table_caseOf 98 = .ok (.ifCond .le 14, 3) := by decide +kernel
theorem d_Table_caseOf_101 : decode b_Table_caseOf 101 = .ok (.aload_n 0, 1) := by decide +kernel
theorem d_Table_caseOf_102 : decode b_Table_caseOf 102 = .ok (.iload_n 3, 1) := by decide +kernel
theorem d_Table_caseOf_103 : decode b_Table_caseOf 103 = .ok (.aload_n 0, 1) := by decide +kernel
theorem d_Table_caseOf_104 : decode b_Table_caseOf 104 = .ok (.iload_n 3, 1) := by decide +kernel
theorem d_Table_caseOf_105 : decode b_Table_caseOf 105 = .ok (.invokevirtual 68, 3) := by decide +kernel
theorem d_Table_caseOf_108 : decode b_Table_caseOf 108 = .ok (.iadd, 1) := by decide +kernel
theorem d_Table_caseOf_109 : decode b_Table_caseOf 109 = .ok (.invokevirtual 74, 3) := by decide +kernel
theorem d_Table_caseOf_112 : decode b_Table_caseOf 112 = .ok (.iload_n 2, 1) := by decide +kernel
theorem d_Table_caseOf_113 : decode b_Table_caseOf 113 = .ok (.ifCond .eq 4, 3) := by decide +kernel
theorem d_Table_caseOf_116 : decode b_Table_caseOf 116 = .ok (.return_, 1) := by decide +kernel
theorem d_Table_caseOf_117 : decode b_Table_caseOf 117 = .ok (.iload_n 3, 1) := by decide +kernel
theorem d_Table_caseOf_118 : decode b_Table_caseOf 118 = .ok (.bipush 83, 2) := by decide +kernel
theorem d_Table_caseOf_120 : decode b_Table_caseOf 120 = .ok (.if_icmp .ne 10, 3) := by decide +kernel
theorem d_Table_caseOf_123 : decode b_Table_caseOf 123 = .ok (.aload_n 0, 1) := by decide +kernel
theorem d_Table_caseOf_124 : decode b_Table_caseOf 124 = .ok (.sipush 383, 3) := by decide +kernel
theorem d_Table_caseOf_127 : decode b_Table_caseOf 127 = .ok (.invokevirtual 74, 3) := by decide +kernel
theorem d_Table_caseOf_130 : decode b_Table_caseOf 130 = .ok (.iload_n 3, 1) := by decide +kernel
theorem d_Table_caseOf_131 : decode b_Table_caseOf 131 = .ok (.bipush 75, 2) := by decide +kernel
theorem d_Table_caseOf_133 : decode b_Table_caseOf 133 = .ok (.if_icmp .ne 10, 3) := by decide +kernel
theorem d_Table_caseOf_136 : decode b_Table_caseOf 136 = .ok (.aload_n 0, 1) := by decide +kernel
theorem d_Table_caseOf_137 : decode b_Table_caseOf 137 = .ok (.sipush 8490, 3) := by decide +kernel
theorem d_Table_caseOf_140 : decode b_Table_caseOf 140 = .ok (.invokevirtual 74, 3) := by decide +kernel
theorem d_Table_caseOf_143 : decode b_Table_caseOf 143 = .ok (.iload_n 3, 1) := by decide +kernel
theorem d_Table_caseOf_144 : decode b_Table_caseOf 144 = .ok (.sipush 197, 3) := by decide +kernel
theorem d_Table_caseOf_147 : decode b_Table_caseOf 147 = .ok (.if_icmp .ne 10, 3) := by decide +kernel
theorem d_Table_caseOf_150 : decode b_Table_caseOf 150 = .ok (.aload_n 0, 1) := by decide +kernel
theorem d_Table_caseOf_151 : decode b_Table_caseOf 151 = .ok (.sipush 8491, 3) := by decide +kernel
theorem d_Table_caseOf_154 : decode b_Table_caseOf 154 = .ok (.invokevirtual 74, 3) := by decide +kernel
theorem d_Table_caseOf_157 : decode b_Table_caseOf 157 = .ok (.iload_n 3, 1) := by decide +kernel
theorem d_Table_caseOf_158 : decode b_Table_caseOf 158 = .ok (.sipush 924, 3) := by decide +kernel
theorem d_Table_caseOf_161 : decode b_Table_caseOf 161 = .ok (.if_icmp .ne 10, 3) := by decide +kernel
theorem d_Table_caseOf_164 : decode b_Table_caseOf 164 = .ok (.aload_n 0, 1) := by decide +kernel
theorem d_Table_caseOf_165 : decode b_Table_caseOf 165 = .ok (.sipush 181, 3) := by decide +kernel
theorem d_Table_caseOf_168 : decode b_Table_caseOf 168 = .ok (.invokevirtual 74, 3) := by decide +kernel
theorem d_Table_caseOf_171 : decode b_Table_caseOf 171 = .ok (.iload_n 3, 1) := by decide +kernel
theorem d_Table_caseOf_172 : decode b_Table_caseOf 172 = .ok (.sipush 931, 3) := by decide +kernel
theorem d_Table_caseOf_175 : decode b_Table_caseOf 175 = .ok (.if_icmp .ne 10, 3) := by decide +kernel
theorem d_Table_caseOf_178 : decode b_Table_caseOf 178 = .ok (.aload_n 0, 1) := by decide +kernel
theorem d_Table_caseOf_179 : decode b_Table_caseOf 179 = .ok (.sipush 962, 3) := by decide +kernel
theorem d_Table_caseOf_182 : decode b_Table_caseOf 182 = .ok (.invokevirtual 74, 3) := by decide +kernel
theorem d_Table_caseOf_185 : decode b_Table_caseOf 185 = .ok (.return_, 1) := by decide +kernel
abbrev b_Table_first : ByteArray := prog_16_method_14_code
abbrev y_Table_first : MethodName := ⟨"ReplacementWriterModel$Table", "first", "(I)I"⟩
theorem d_Table_first_0 : decode b_Table_first 0 = .ok (.aload_n 0, 1) := by decide +kernel
theorem d_Table_first_1 : decode b_Table_first 1 = .ok (.iload_n 1, 1) := by decide +kernel
theorem d_Table_first_2 : decode b_Table_first 2 = .ok (.invokevirtual 65, 3) := by decide +kernel
theorem d_Table_first_5 : decode b_Table_first 5 = .ok (.ifCond .lt 9, 3) := by decide +kernel
theorem d_Table_first_8 : decode b_Table_first 8 = .ok (.aload_n 0, 1) := by decide +kernel
theorem d_Table_first_9 : decode b_Table_first 9 = .ok (.iload_n 1, 1) := by decide +kernel
theorem d_Table_first_10 : decode b_Table_first 10 = .ok (.invokevirtual 65, 3) := by decide +kernel
theorem d_Table_first_13 : decode b_Table_first 13 = .ok (.ireturn, 1) := by decide +kernel
theorem d_Table_first_14 : decode b_Table_first 14 = .ok (.iload_n 1, 1) := by decide +kernel
theorem d_Table_first_15 : decode b_Table_first 15 = .ok (.sipush 255, 3) := by decide +kernel
theorem d_Table_first_18 : decode b_Table_first 18 = .ok (.if_icmp .ne 7, 3) := by decide +kernel
theorem d_Table_first_21 : decode b_Table_first 21 = .ok (.sipush 376, 3) := by decide +kernel
theorem d_Table_first_24 : decode b_Table_first 24 = .ok (.ireturn, 1) := by decide +kernel
theorem d_Table_first_25 : decode b_Table_first 25 = .ok (.aload_n 0, 1) := by decide +kernel
theorem d_Table_first_26 : decode b_Table_first 26 = .ok (.iload_n 1, 1) := by decide +kernel
theorem d_Table_first_27 : decode b_Table_first 27 = .ok (.invokevirtual 68, 3) := by decide +kernel
theorem d_Table_first_30 : decode b_Table_first 30 = .ok (.ifCond .le 5, 3) := by decide +kernel
theorem d_Table_first_33 : decode b_Table_first 33 = .ok (.iload_n 1, 1) := by decide +kernel
theorem d_Table_first_34 : decode b_Table_first 34 = .ok (.ireturn, 1) := by decide +kernel
theorem d_Table_first_35 : decode b_Table_first 35 = .ok (.iload_n 1, 1) := by decide +kernel
theorem d_Table_first_36 : decode b_Table_first 36 = .ok (.bipush 32, 2) := by decide +kernel
theorem d_Table_first_38 : decode b_Table_first 38 = .ok (.if_icmp .lt 21, 3) := by decide +kernel
theorem d_Table_first_41 : decode b_Table_first 41 = .ok (.aload_n 0, 1) := by decide +kernel
theorem d_Table_first_42 : decode b_Table_first 42 = .ok (.iload_n 1, 1) := by decide +kernel
theorem d_Table_first_43 : decode b_Table_first 43 = .ok (.bipush 32, 2) := by decide +kernel
theorem d_Table_first_45 : decode b_Table_first 45 = .ok (.isub, 1) := by decide +kernel
theorem d_Table_first_46 : decode b_Table_first 46 = .ok (.invokevirtual 68, 3) := by decide +kernel
theorem d_Table_first_49 : decode b_Table_first 49 = .ok (.bipush 32, 2) := by decide +kernel
theorem d_Table_first_51 : decode b_Table_first 51 = .ok (.if_icmp .ne 8, 3) := by decide +kernel
theorem d_Table_first_54 : decode b_Table_first 54 = .ok (.iload_n 1, 1) := by decide +kernel
theorem d_Table_first_55 : decode b_Table_first 55 = .ok (.bipush 32, 2) := by decide +kernel
theorem d_Table_first_57 : decode b_Table_first 57 = .ok (.isub, 1) := by decide +kernel
theorem d_Table_first_58 : decode b_Table_first 58 = .ok (.ireturn, 1) := by decide +kernel
theorem d_Table_first_59 : decode b_Table_first 59 = .ok (.iload_n 1, 1) := by decide +kernel
theorem d_Table_first_60 : decode b_Table_first 60 = .ok (.bipush 80, 2) := by decide +kernel
theorem d_Table_first_62 : decode b_Table_first 62 = .ok (.if_icmp .lt 21, 3) := by decide +kernel
theorem d_Table_first_65 : decode b_Table_first 65 = .ok (.aload_n 0, 1) := by decide +kernel
theorem d_Table_first_66 : decode b_Table_first 66 = .ok (.iload_n 1, 1) := by decide +kernel
theorem d_Table_first_67 : decode b_Table_first 67 = .ok (.bipush 80, 2) := by decide +kernel
theorem d_Table_first_69 : decode b_Table_first 69 = .ok (.isub, 1) := by decide +kernel
theorem d_Table_first_70 : decode b_Table_first 70 = .ok (.invokevirtual 68, 3) := by decide +kernel
theorem d_Table_first_73 : decode b_Table_first 73 = .ok (.bipush 80, 2) := by decide +kernel
theorem d_Table_first_75 : decode b_Table_first 75 = .ok (.if_icmp .ne 8, 3) := by decide +kernel
theorem d_Table_first_78 : decode b_Table_first 78 = .ok (.iload_n 1, 1) := by decide +kernel
theorem d_Table_first_79 : decode b_Table_first 79 = .ok (.bipush 80, 2) := by decide +kernel
theorem d_Table_first_81 : decode b_Table_first 81 = .ok (.isub, 1) := by decide +kernel
theorem d_Table_first_82 : decode b_Table_first 82 = .ok (.ireturn, 1) := by decide +kernel
theorem d_Table_first_83 : decode b_Table_first 83 = .ok (.iload_n 1, 1) := by decide +kernel
theorem d_Table_first_84 : decode b_Table_first 84 = .ok (.ifCond .le 20, 3) := by decide +kernel
theorem d_Table_first_87 : decode b_Table_first 87 = .ok (.aload_n 0, 1) := by decide +kernel
theorem d_Table_first_88 : decode b_Table_first 88 = .ok (.iload_n 1, 1) := by decide +kernel
theorem d_Table_first_89 : decode b_Table_first 89 = .ok (.iconst 1, 1) := by decide +kernel
theorem d_Table_first_90 : decode b_Table_first 90 = .ok (.isub, 1) := by decide +kernel
theorem d_Table_first_91 : decode b_Table_first 91 = .ok (.invokevirtual 68, 3) := by decide +kernel
theorem d_Table_first_94 : decode b_Table_first 94 = .ok (.iconst 1, 1) := by decide +kernel
theorem d_Table_first_95 : decode b_Table_first 95 = .ok (.if_icmp .ne 9, 3) := by decide +kernel
theorem d_Table_first_98 : decode b_Table_first 98 = .ok (.iload_n 1, 1) := by decide +kernel
theorem d_Table_first_99 : decode b_Table_first 99 = .ok (.iconst 1, 1) := by decide +kernel
theorem d_Table_first_100 : decode b_Table_first 100 = .ok (.isub, 1) := by decide +kernel
theorem d_Table_first_101 : decode b_Table_first 101 = .ok (.goto 4, 3) := by decide +kernel
theorem d_Table_first_104 : decode b_Table_first 104 = .ok (.iload_n 1, 1) := by decide +kernel
theorem d_Table_first_105 : decode b_Table_first 105 = .ok (.ireturn, 1) := by decide +kernel
abbrev b_Table_third : ByteArray := prog_16_method_13_code
abbrev y_Table_third : MethodName := ⟨"ReplacementWriterModel$Table", "third", "(I)I"⟩
theorem d_Table_third_0 : decode b_Table_third 0 = .ok (.iload_n 1, 1) := by decide +kernel
theorem d_Table_third_1 : decode b_Table_third 1 = .ok (.sipush 383, 3) := by decide +kernel
theorem d_Table_third_4 : decode b_Table_third 4 = .ok (.if_icmp .ne 6, 3) := by decide +kernel
theorem d_Table_third_7 : decode b_Table_third 7 = .ok (.bipush 83, 2) := by decide +kernel
theorem d_Table_third_9 : decode b_Table_third 9 = .ok (.ireturn, 1) := by decide +kernel
theorem d_Table_third_10 : decode b_Table_third 10 = .ok (.iload_n 1, 1) := by decide +kernel
theorem d_Table_third_11 : decode b_Table_third 11 = .ok (.sipush 8490, 3) := by decide +kernel
theorem d_Table_third_14 : decode b_Table_third 14 = .ok (.if_icmp .ne 6, 3) := by decide +kernel
theorem d_Table_third_17 : decode b_Table_third 17 = .ok (.bipush 75, 2) := by decide +kernel
theorem d_Table_third_19 : decode b_Table_third 19 = .ok (.ireturn, 1) := by decide +kernel
theorem d_Table_third_20 : decode b_Table_third 20 = .ok (.iload_n 1, 1) := by decide +kernel
theorem d_Table_third_21 : decode b_Table_third 21 = .ok (.sipush 8491, 3) := by decide +kernel
theorem d_Table_third_24 : decode b_Table_third 24 = .ok (.if_icmp .ne 7, 3) := by decide +kernel
theorem d_Table_third_27 : decode b_Table_third 27 = .ok (.sipush 197, 3) := by decide +kernel
theorem d_Table_third_30 : decode b_Table_third 30 = .ok (.ireturn, 1) := by decide +kernel
theorem d_Table_third_31 : decode b_Table_third 31 = .ok (.iload_n 1, 1) := by decide +kernel
theorem d_Table_third_32 : decode b_Table_third 32 = .ok (.sipush 181, 3) := by decide +kernel
theorem d_Table_third_35 : decode b_Table_third 35 = .ok (.if_icmp .ne 7, 3) := by decide +kernel
theorem d_Table_third_38 : decode b_Table_third 38 = .ok (.sipush 924, 3) := by decide +kernel
theorem d_Table_third_41 : decode b_Table_third 41 = .ok (.ireturn, 1) := by decide +kernel
theorem d_Table_third_42 : decode b_Table_third 42 = .ok (.iload_n 1, 1) := by decide +kernel
theorem d_Table_third_43 : decode b_Table_third 43 = .ok (.sipush 962, 3) := by decide +kernel
theorem d_Table_third_46 : decode b_Table_third 46 = .ok (.if_icmp .ne 9, 3) := by decide +kernel
theorem d_Table_third_49 : decode b_Table_third 49 = .ok (.sipush 931, 3) := by decide +kernel
theorem d_Table_third_52 : decode b_Table_third 52 = .ok (.goto 4, 3) := by decide +kernel
theorem d_Table_third_55 : decode b_Table_third 55 = .ok (.iconst (-1), 1) := by decide +kernel
theorem d_Table_third_56 : decode b_Table_third 56 = .ok (.ireturn, 1) := by decide +kernel
abbrev b_Table_pair : ByteArray := prog_16_method_12_code
abbrev y_Table_pair : MethodName := ⟨"ReplacementWriterModel$Table", "pair", "(I)I"⟩
theorem d_Table_pair_0 : decode b_Table_pair 0 = .ok (.aload_n 0, 1) := by decide +kernel
theorem d_Table_pair_1 : decode b_Table_pair 1 = .ok (.iload_n 1, 1) := by decide +kernel
theorem d_Table_pair_2 : decode b_Table_pair 2 = .ok (.bipush 65, 2) := by decide +kernel
theorem d_Table_pair_4 : decode b_Table_pair 4 = .ok (.bipush 90, 2) := by decide +kernel
theorem d_Table_pair_6 : decode b_Table_pair 6 = .ok (.invokevirtual 61, 3) := by decide +kernel
theorem d_Table_pair_9 : decode b_Table_pair 9 = .ok (.ifCond .ne 73, 3) := by decide +kernel
theorem d_Table_pair_12 : decode b_Table_pair 12 = .ok (.aload_n 0, 1) := by decide +kernel
theorem d_Table_pair_13 : decode b_Table_pair 13 = .ok (.iload_n 1, 1) := by decide +kernel
theorem d_Table_pair_14 : decode b_Table_pair 14 = .ok (.sipush 192, 3) := by decide +kernel
theorem d_Table_pair_17 : decode b_Table_pair 17 = .ok (.sipush 214, 3) := by decide +kernel
theorem d_Table_pair_20 : decode b_Table_pair 20 = .ok (.invokevirtual 61, 3) := by decide +kernel
theorem d_Table_pair_23 : decode b_Table_pair 23 = .ok (.ifCond .ne 59, 3) := by decide +kernel
theorem d_Table_pair_26 : decode b_Table_pair 26 = .ok (.aload_n 0, 1) := by decide +kernel
theorem d_Table_pair_27 : decode b_Table_pair 27 = .ok (.iload_n 1, 1) := by decide +kernel
theorem d_Table_pair_28 : decode b_Table_pair 28 = .ok (.sipush 216, 3) := by decide +kernel
theorem d_Table_pair_31 : decode b_Table_pair 31 = .ok (.sipush 222, 3) := by decide +kernel
theorem d_Table_pair_34 : decode b_Table_pair 34 = .ok (.invokevirtual 61, 3) := by decide +kernel
theorem d_Table_pair_37 : decode b_Table_pair 37 = .ok (.ifCond .ne 45, 3) := by decide +kernel
theorem d_Table_pair_40 : decode b_Table_pair 40 = .ok (.aload_n 0, 1) := by decide +kernel
theorem d_Table_pair_41 : decode b_Table_pair 41 = .ok (.iload_n 1, 1) := by decide +kernel
theorem d_Table_pair_42 : decode b_Table_pair 42 = .ok (.sipush 913, 3) := by decide +kernel
theorem d_Table_pair_45 : decode b_Table_pair 45 = .ok (.sipush 929, 3) := by decide +kernel
theorem d_Table_pair_48 : decode b_Table_pair 48 = .ok (.invokevirtual 61, 3) := by decide +kernel
theorem d_Table_pair_51 : decode b_Table_pair 51 = .ok (.ifCond .ne 31, 3) := by decide +kernel
theorem d_Table_pair_54 : decode b_Table_pair 54 = .ok (.aload_n 0, 1) := by decide +kernel
theorem d_Table_pair_55 : decode b_Table_pair 55 = .ok (.iload_n 1, 1) := by decide +kernel
theorem d_Table_pair_56 : decode b_Table_pair 56 = .ok (.sipush 931, 3) := by decide +kernel
theorem d_Table_pair_59 : decode b_Table_pair 59 = .ok (.sipush 937, 3) := by decide +kernel
theorem d_Table_pair_62 : decode b_Table_pair 62 = .ok (.invokevirtual 61, 3) := by decide +kernel
theorem d_Table_pair_65 : decode b_Table_pair 65 = .ok (.ifCond .ne 17, 3) := by decide +kernel
theorem d_Table_pair_68 : decode b_Table_pair 68 = .ok (.aload_n 0, 1) := by decide +kernel
theorem d_Table_pair_69 : decode b_Table_pair 69 = .ok (.iload_n 1, 1) := by decide +kernel
theorem d_Table_pair_70 : decode b_Table_pair 70 = .ok (.sipush 1040, 3) := by decide +kernel
theorem d_Table_pair_73 : decode b_Table_pair 73 = .ok (.sipush 1071, 3) := by decide +kernel
theorem d_Table_pair_76 : decode b_Table_pair 76 = .ok (.invokevirtual 61, 3) := by decide +kernel
theorem d_Table_pair_79 : decode b_Table_pair 79 = .ok (.ifCond .eq 6, 3) := by decide +kernel
theorem d_Table_pair_82 : decode b_Table_pair 82 = .ok (.bipush 32, 2) := by decide +kernel
theorem d_Table_pair_84 : decode b_Table_pair 84 = .ok (.ireturn, 1) := by decide +kernel
theorem d_Table_pair_85 : decode b_Table_pair 85 = .ok (.aload_n 0, 1) := by decide +kernel
theorem d_Table_pair_86 : decode b_Table_pair 86 = .ok (.iload_n 1, 1) := by decide +kernel
theorem d_Table_pair_87 : decode b_Table_pair 87 = .ok (.sipush 1024, 3) := by decide +kernel
theorem d_Table_pair_90 : decode b_Table_pair 90 = .ok (.sipush 1039, 3) := by decide +kernel
theorem d_Table_pair_93 : decode b_Table_pair 93 = .ok (.invokevirtual 61, 3) := by decide +kernel
theorem d_Table_pair_96 : decode b_Table_pair 96 = .ok (.ifCond .eq 6, 3) := by decide +kernel
theorem d_Table_pair_99 : decode b_Table_pair 99 = .ok (.bipush 80, 2) := by decide +kernel
theorem d_Table_pair_101 : decode b_Table_pair 101 = .ok (.ireturn, 1) := by decide +kernel
theorem d_Table_pair_102 : decode b_Table_pair 102 = .ok (.aload_n 0, 1) := by decide +kernel
theorem d_Table_pair_103 : decode b_Table_pair 103 = .ok (.iload_n 1, 1) := by decide +kernel
theorem d_Table_pair_104 : decode b_Table_pair 104 = .ok (.sipush 256, 3) := by decide +kernel
theorem d_Table_pair_107 : decode b_Table_pair 107 = .ok (.sipush 303, 3) := by decide +kernel
theorem d_Table_pair_110 : decode b_Table_pair 110 = .ok (.invokevirtual 61, 3) := by decide +kernel
theorem d_Table_pair_113 : decode b_Table_pair 113 = .ok (.ifCond .ne 59, 3) := by decide +kernel
theorem d_Table_pair_116 : decode b_Table_pair 116 = .ok (.aload_n 0, 1) := by decide +kernel
theorem d_Table_pair_117 : decode b_Table_pair 117 = .ok (.iload_n 1, 1) := by decide +kernel
theorem d_Table_pair_118 : decode b_Table_pair 118 = .ok (.sipush 306, 3) := by decide +kernel
theorem d_Table_pair_121 : decode b_Table_pair 121 = .ok (.sipush 311, 3) := by decide +kernel
theorem d_Table_pair_124 : decode b_Table_pair 124 = .ok (.invokevirtual 61, 3) := by decide +kernel
theorem d_Table_pair_127 : decode b_Table_pair 127 = .ok (.ifCond .ne 45, 3) := by decide +kernel
theorem d_Table_pair_130 : decode b_Table_pair 130 = .ok (.aload_n 0, 1) := by decide +kernel
theorem d_Table_pair_131 : decode b_Table_pair 131 = .ok (.iload_n 1, 1) := by decide +kernel
theorem d_Table_pair_132 : decode b_Table_pair 132 = .ok (.sipush 313, 3) := by decide +kernel
theorem d_Table_pair_135 : decode b_Table_pair 135 = .ok (.sipush 328, 3) := by decide +kernel
theorem d_Table_pair_138 : decode b_Table_pair 138 = .ok (.invokevirtual 61, 3) := by decide +kernel
theorem d_Table_pair_141 : decode b_Table_pair 141 = .ok (.ifCond .ne 31, 3) := by decide +kernel
theorem d_Table_pair_144 : decode b_Table_pair 144 = .ok (.aload_n 0, 1) := by decide +kernel
theorem d_Table_pair_145 : decode b_Table_pair 145 = .ok (.iload_n 1, 1) := by decide +kernel
theorem d_Table_pair_146 : decode b_Table_pair 146 = .ok (.sipush 330, 3) := by decide +kernel
theorem d_Table_pair_149 : decode b_Table_pair 149 = .ok (.sipush 375, 3) := by decide +kernel
theorem d_Table_pair_152 : decode b_Table_pair 152 = .ok (.invokevirtual 61, 3) := by decide +kernel
theorem d_Table_pair_155 : decode b_Table_pair 155 = .ok (.ifCond .ne 17, 3) := by decide +kernel
theorem d_Table_pair_158 : decode b_Table_pair 158 = .ok (.aload_n 0, 1) := by decide +kernel
theorem d_Table_pair_159 : decode b_Table_pair 159 = .ok (.iload_n 1, 1) := by decide +kernel
theorem d_Table_pair_160 : decode b_Table_pair 160 = .ok (.sipush 377, 3) := by decide +kernel
theorem d_Table_pair_163 : decode b_Table_pair 163 = .ok (.sipush 382, 3) := by decide +kernel
theorem d_Table_pair_166 : decode b_Table_pair 166 = .ok (.invokevirtual 61, 3) := by decide +kernel
theorem d_Table_pair_169 : decode b_Table_pair 169 = .ok (.ifCond .eq 7, 3) := by decide +kernel
theorem d_Table_pair_172 : decode b_Table_pair 172 = .ok (.iconst 1, 1) := by decide +kernel
theorem d_Table_pair_173 : decode b_Table_pair 173 = .ok (.goto 4, 3) := by decide +kernel
theorem d_Table_pair_176 : decode b_Table_pair 176 = .ok (.iconst 0, 1) := by decide +kernel
theorem d_Table_pair_177 : decode b_Table_pair 177 = .ok (.istore_n 2, 1) := by decide +kernel
theorem d_Table_pair_178 : decode b_Table_pair 178 = .ok (.iload_n 2, 1) := by decide +kernel
theorem d_Table_pair_179 : decode b_Table_pair 179 = .ok (.ifCond .eq 17, 3) := by decide +kernel
theorem d_Table_pair_182 : decode b_Table_pair 182 = .ok (.aload_n 0, 1) := by decide +kernel
theorem d_Table_pair_183 : decode b_Table_pair 183 = .ok (.iload_n 1, 1) := by decide +kernel
theorem d_Table_pair_184 : decode b_Table_pair 184 = .ok (.invokevirtual 57, 3) := by decide +kernel
theorem d_Table_pair_187 : decode b_Table_pair 187 = .ok (.bipush 6, 2) := by decide +kernel
theorem d_Table_pair_189 : decode b_Table_pair 189 = .ok (.if_icmp .ne 7, 3) := by decide +kernel
theorem d_Table_pair_192 : decode b_Table_pair 192 = .ok (.iconst 1, 1) := by decide +kernel
theorem d_Table_pair_193 : decode b_Table_pair 193 = .ok (.goto 4, 3) := by decide +kernel
theorem d_Table_pair_196 : decode b_Table_pair 196 = .ok (.iconst 0, 1) := by decide +kernel
theorem d_Table_pair_197 : decode b_Table_pair 197 = .ok (.ireturn, 1) := by decide +kernel
abbrev b_Table_inAny : ByteArray := prog_16_method_11_code
abbrev y_Table_inAny : MethodName := ⟨"ReplacementWriterModel$Table", "inAny", "(III)Z"⟩
theorem d_Table_inAny_0 : decode b_Table_inAny 0 = .ok (.iload_n 1, 1) := by decide +kernel
theorem d_Table_inAny_1 : decode b_Table_inAny 1 = .ok (.iload_n 2, 1) := by decide +kernel
theorem d_Table_inAny_2 : decode b_Table_inAny 2 = .ok (.if_icmp .lt 12, 3) := by decide +kernel
theorem d_Table_inAny_5 : decode b_Table_inAny 5 = .ok (.iload_n 1, 1) := by decide +kernel
theorem d_Table_inAny_6 : decode b_Table_inAny 6 = .ok (.iload_n 3, 1) := by decide +kernel
theorem d_Table_inAny_7 : decode b_Table_inAny 7 = .ok (.if_icmp .gt 7, 3) := by decide +kernel
theorem d_Table_inAny_10 : decode b_Table_inAny 10 = .ok (.iconst 1, 1) := by decide +kernel
theorem d_Table_inAny_11 : decode b_Table_inAny 11 = .ok (.goto 4, 3) := by decide +kernel
theorem d_Table_inAny_14 : decode b_Table_inAny 14 = .ok (.iconst 0, 1) := by decide +kernel
theorem d_Table_inAny_15 : decode b_Table_inAny 15 = .ok (.ireturn, 1) := by decide +kernel
abbrev b_Table_withMate : ByteArray := prog_16_method_10_code
abbrev y_Table_withMate : MethodName := ⟨"ReplacementWriterModel$Table", "withMate", "(I)V"⟩
theorem d_Table_withMate_0 : decode b_Table_withMate 0 = .ok (.iload_n 1, 1) := by decide +kernel
theorem d_Table_withMate_1 : decode b_Table_withMate 1 = .ok (.aload_n 0, 1) := by decide +kernel
theorem d_Table_withMate_2 : decode b_Table_withMate 2 = .ok (.getfield 20, 3) := by decide +kernel
theorem d_Table_withMate_5 : decode b_Table_withMate 5 = .ok (.if_icmp .gt 20, 3) := by decide +kernel
theorem d_Table_withMate_8 : decode b_Table_withMate 8 = .ok (.aload_n 0, 1) := by decide +kernel
theorem d_Table_withMate_9 : decode b_Table_withMate 9 = .ok (.getfield 24, 3) := by decide +kernel
theorem d_Table_withMate_12 : decode b_Table_withMate 12 = .ok (.aload_n 0, 1) := by decide +kernel
theorem d_Table_withMate_13 : decode b_Table_withMate 13 = .ok (.dup, 1) := by decide +kernel
theorem d_Table_withMate_14 : decode b_Table_withMate 14 = .ok (.getfield 28, 3) := by decide +kernel
theorem d_Table_withMate_17 : decode b_Table_withMate 17 = .ok (.dup_x1, 1) := by decide +kernel
theorem d_Table_withMate_18 : decode b_Table_withMate 18 = .ok (.iconst 1, 1) := by decide +kernel
theorem d_Table_withMate_19 : decode b_Table_withMate 19 = .ok (.iadd, 1) := by decide +kernel
theorem d_Table_withMate_20 : decode b_Table_withMate 20 = .ok (.putfield 28, 3) := by decide +kernel
theorem d_Table_withMate_23 : decode b_Table_withMate 23 = .ok (.iload_n 1, 1) := by decide +kernel
theorem d_Table_withMate_24 : decode b_Table_withMate 24 = .ok (.iastore, 1) := by decide +kernel
theorem d_Table_withMate_25 : decode b_Table_withMate 25 = .ok (.return_, 1) := by decide +kernel
abbrev b_Table_lower : ByteArray := prog_16_method_17_code
abbrev y_Table_lower : MethodName := ⟨"ReplacementWriterModel$Table", "lower", "(I)I"⟩
theorem d_Table_lower_0 : decode b_Table_lower 0 = .ok (.aload_n 0, 1) := by decide +kernel
theorem d_Table_lower_1 : decode b_Table_lower 1 = .ok (.iload_n 1, 1) := by decide +kernel
theorem d_Table_lower_2 : decode b_Table_lower 2 = .ok (.invokevirtual 57, 3) := by decide +kernel
theorem d_Table_lower_5 : decode b_Table_lower 5 = .ok (.bipush 6, 2) := by decide +kernel
theorem d_Table_lower_7 : decode b_Table_lower 7 = .ok (.if_icmp .eq 5, 3) := by decide +kernel
theorem d_Table_lower_10 : decode b_Table_lower 10 = .ok (.iload_n 1, 1) := by decide +kernel
theorem d_Table_lower_11 : decode b_Table_lower 11 = .ok (.ireturn, 1) := by decide +kernel
theorem d_Table_lower_12 : decode b_Table_lower 12 = .ok (.aload_n 0, 1) := by decide +kernel
theorem d_Table_lower_13 : decode b_Table_lower 13 = .ok (.iload_n 1, 1) := by decide +kernel
theorem d_Table_lower_14 : decode b_Table_lower 14 = .ok (.invokevirtual 78, 3) := by decide +kernel
theorem d_Table_lower_17 : decode b_Table_lower 17 = .ok (.iconst 0, 1) := by decide +kernel
theorem d_Table_lower_18 : decode b_Table_lower 18 = .ok (.istore_n 2, 1) := by decide +kernel
theorem d_Table_lower_19 : decode b_Table_lower 19 = .ok (.iload_n 2, 1) := by decide +kernel
theorem d_Table_lower_20 : decode b_Table_lower 20 = .ok (.aload_n 0, 1) := by decide +kernel
theorem d_Table_lower_21 : decode b_Table_lower 21 = .ok (.getfield 28, 3) := by decide +kernel
theorem d_Table_lower_24 : decode b_Table_lower 24 = .ok (.if_icmp .ge 43, 3) := by decide +kernel
theorem d_Table_lower_27 : decode b_Table_lower 27 = .ok (.aload_n 0, 1) := by decide +kernel
theorem d_Table_lower_28 : decode b_Table_lower 28 = .ok (.aload_n 0, 1) := by decide +kernel
theorem d_Table_lower_29 : decode b_Table_lower 29 = .ok (.getfield 24, 3) := by decide +kernel
theorem d_Table_lower_32 : decode b_Table_lower 32 = .ok (.iload_n 2, 1) := by decide +kernel
theorem d_Table_lower_33 : decode b_Table_lower 33 = .ok (.iaload, 1) := by decide +kernel
theorem d_Table_lower_34 : decode b_Table_lower 34 = .ok (.invokevirtual 57, 3) := by decide +kernel
theorem d_Table_lower_37 : decode b_Table_lower 37 = .ok (.iconst 4, 1) := by decide +kernel
theorem d_Table_lower_38 : decode b_Table_lower 38 = .ok (.if_icmp .ne 23, 3) := by decide +kernel
theorem d_Table_lower_41 : decode b_Table_lower 41 = .ok (.aload_n 0, 1) := by decide +kernel
theorem d_Table_lower_42 : decode b_Table_lower 42 = .ok (.aload_n 0, 1) := by decide +kernel
theorem d_Table_lower_43 : decode b_Table_lower 43 = .ok (.getfield 24, 3) := by decide +kernel
theorem d_Table_lower_46 : decode b_Table_lower 46 = .ok (.iload_n 2, 1) := by decide +kernel
theorem d_Table_lower_47 : decode b_Table_lower 47 = .ok (.iaload, 1) := by decide +kernel
theorem d_Table_lower_48 : decode b_Table_lower 48 = .ok (.invokevirtual 65, 3) := by decide +kernel
theorem d_Table_lower_51 : decode b_Table_lower 51 = .ok (.ifCond .ge 10, 3) := by decide +kernel
theorem d_Table_lower_54 : decode b_Table_lower 54 = .ok (.aload_n 0, 1) := by decide +kernel
theorem d_Table_lower_55 : decode b_Table_lower 55 = .ok (.getfield 24, 3) := by decide +kernel
theorem d_Table_lower_58 : decode b_Table_lower 58 = .ok (.iload_n 2, 1) := by decide +kernel
theorem d_Table_lower_59 : decode b_Table_lower 59 = .ok (.iaload, 1) := by decide +kernel
theorem d_Table_lower_60 : decode b_Table_lower 60 = .ok (.ireturn, 1) := by decide +kernel
theorem d_Table_lower_61 : decode b_Table_lower 61 = .ok (.iinc 2 1, 3) := by decide +kernel
theorem d_Table_lower_64 : decode b_Table_lower 64 = .ok (.goto (-45), 3) := by decide +kernel
theorem d_Table_lower_67 : decode b_Table_lower 67 = .ok (.iload_n 1, 1) := by decide +kernel
theorem d_Table_lower_68 : decode b_Table_lower 68 = .ok (.ireturn, 1) := by decide +kernel
