theorem dX12_loadOf_42 : decode cX12_loadOf 42 = .ok (.iadd, 1) := by decide +kernel
theorem dX12_loadOf_43 : decode cX12_loadOf 43 = .ok (.istore_n 2, 1) := by decide +kernel
theorem dX12_loadOf_44 : decode cX12_loadOf 44 = .ok (.iinc 3 1, 3) := by decide +kernel
theorem dX12_loadOf_47 : decode cX12_loadOf 47 = .ok (.goto (-39), 3) := by decide +kernel
theorem dX12_loadOf_50 : decode cX12_loadOf 50 = .ok (.iload_n 2, 1) := by decide +kernel
theorem dX12_loadOf_51 : decode cX12_loadOf 51 = .ok (.ireturn, 1) := by decide +kernel
theorem dX12_slip_0 : decode cX12_slip 0 = .ok (.iload_n 1, 1) := by decide +kernel
theorem dX12_slip_1 : decode cX12_slip 1 = .ok (.invokestatic 248, 3) := by decide +kernel
theorem dX12_slip_4 : decode cX12_slip 4 = .ok (.ifCond .eq 10, 3) := by decide +kernel
theorem dX12_slip_7 : decode cX12_slip 7 = .ok (.iload_n 2, 1) := by decide +kernel
theorem dX12_slip_8 : decode cX12_slip 8 = .ok (.invokestatic 193, 3) := by decide +kernel
theorem dX12_slip_11 : decode cX12_slip 11 = .ok (.ifCond .ne 5, 3) := by decide +kernel
theorem dX12_slip_14 : decode cX12_slip 14 = .ok (.iconst (-1), 1) := by decide +kernel
theorem dX12_slip_15 : decode cX12_slip 15 = .ok (.ireturn, 1) := by decide +kernel
theorem dX12_slip_16 : decode cX12_slip 16 = .ok (.aload_n 0, 1) := by decide +kernel
theorem dX12_slip_17 : decode cX12_slip 17 = .ok (.getfield 286, 3) := by decide +kernel
theorem dX12_slip_20 : decode cX12_slip 20 = .ok (.bipush 24, 2) := by decide +kernel
theorem dX12_slip_22 : decode cX12_slip 22 = .ok (.if_icmp .ne 6, 3) := by decide +kernel
theorem dX12_slip_25 : decode cX12_slip 25 = .ok (.bipush (-2), 2) := by decide +kernel
theorem dX12_slip_27 : decode cX12_slip 27 = .ok (.ireturn, 1) := by decide +kernel
theorem dX12_slip_28 : decode cX12_slip 28 = .ok (.aload_n 0, 1) := by decide +kernel
theorem dX12_slip_29 : decode cX12_slip 29 = .ok (.getfield 22, 3) := by decide +kernel
theorem dX12_slip_32 : decode cX12_slip 32 = .ok (.iload_n 2, 1) := by decide +kernel
theorem dX12_slip_33 : decode cX12_slip 33 = .ok (.iaload, 1) := by decide +kernel
theorem dX12_slip_34 : decode cX12_slip 34 = .ok (.ifCond .ge 9, 3) := by decide +kernel
theorem dX12_slip_37 : decode cX12_slip 37 = .ok (.aload_n 0, 1) := by decide +kernel
theorem dX12_slip_38 : decode cX12_slip 38 = .ok (.iconst 1, 1) := by decide +kernel
theorem dX12_slip_39 : decode cX12_slip 39 = .ok (.invokevirtual 182, 3) := by decide +kernel
theorem dX12_slip_42 : decode cX12_slip 42 = .ok (.ireturn, 1) := by decide +kernel
theorem dX12_slip_43 : decode cX12_slip 43 = .ok (.iload_n 3, 1) := by decide +kernel
theorem dX12_slip_44 : decode cX12_slip 44 = .ok (.iconst 0, 1) := by decide +kernel
theorem dX12_slip_45 : decode cX12_slip 45 = .ok (.aload_n 0, 1) := by decide +kernel
theorem dX12_slip_46 : decode cX12_slip 46 = .ok (.getfield 22, 3) := by decide +kernel
theorem dX12_slip_49 : decode cX12_slip 49 = .ok (.iload_n 2, 1) := by decide +kernel
theorem dX12_slip_50 : decode cX12_slip 50 = .ok (.iaload, 1) := by decide +kernel
theorem dX12_slip_51 : decode cX12_slip 51 = .ok (.iconst 1, 1) := by decide +kernel
theorem dX12_slip_52 : decode cX12_slip 52 = .ok (.isub, 1) := by decide +kernel
theorem dX12_slip_53 : decode cX12_slip 53 = .ok (.invokestatic 168, 3) := by decide +kernel
theorem dX12_slip_56 : decode cX12_slip 56 = .ok (.ifCond .ne 9, 3) := by decide +kernel
theorem dX12_slip_59 : decode cX12_slip 59 = .ok (.aload_n 0, 1) := by decide +kernel
theorem dX12_slip_60 : decode cX12_slip 60 = .ok (.iconst 2, 1) := by decide +kernel
theorem dX12_slip_61 : decode cX12_slip 61 = .ok (.invokevirtual 182, 3) := by decide +kernel
theorem dX12_slip_64 : decode cX12_slip 64 = .ok (.ireturn, 1) := by decide +kernel
theorem dX12_slip_65 : decode cX12_slip 65 = .ok (.aload_n 0, 1) := by decide +kernel
theorem dX12_slip_66 : decode cX12_slip 66 = .ok (.iload_n 2, 1) := by decide +kernel
theorem dX12_slip_67 : decode cX12_slip 67 = .ok (.iload_n 3, 1) := by decide +kernel
theorem dX12_slip_68 : decode cX12_slip 68 = .ok (.iconst 4, 1) := by decide +kernel
theorem dX12_slip_69 : decode cX12_slip 69 = .ok (.invokevirtual 260, 3) := by decide +kernel
theorem dX12_slip_72 : decode cX12_slip 72 = .ok (.ifCond .ne 9, 3) := by decide +kernel
theorem dX12_slip_75 : decode cX12_slip 75 = .ok (.aload_n 0, 1) := by decide +kernel
theorem dX12_slip_76 : decode cX12_slip 76 = .ok (.iconst 3, 1) := by decide +kernel
theorem dX12_slip_77 : decode cX12_slip 77 = .ok (.invokevirtual 182, 3) := by decide +kernel
theorem dX12_slip_80 : decode cX12_slip 80 = .ok (.ireturn, 1) := by decide +kernel
theorem dX12_slip_81 : decode cX12_slip 81 = .ok (.aload_n 0, 1) := by decide +kernel
theorem dX12_slip_82 : decode cX12_slip 82 = .ok (.aload_n 0, 1) := by decide +kernel
theorem dX12_slip_83 : decode cX12_slip 83 = .ok (.getfield 196, 3) := by decide +kernel
theorem dX12_slip_86 : decode cX12_slip 86 = .ok (.invokevirtual 233, 3) := by decide +kernel
theorem dX12_slip_89 : decode cX12_slip 89 = .ok (.istore 4, 2) := by decide +kernel
theorem dX12_slip_91 : decode cX12_slip 91 = .ok (.iload 4, 2) := by decide +kernel
theorem dX12_slip_93 : decode cX12_slip 93 = .ok (.bipush (-9), 2) := by decide +kernel
theorem dX12_slip_95 : decode cX12_slip 95 = .ok (.if_icmp .ne 9, 3) := by decide +kernel
theorem dX12_slip_98 : decode cX12_slip 98 = .ok (.aload_n 0, 1) := by decide +kernel
theorem dX12_slip_99 : decode cX12_slip 99 = .ok (.iconst 1, 1) := by decide +kernel
theorem dX12_slip_100 : decode cX12_slip 100 = .ok (.invokevirtual 182, 3) := by decide +kernel
theorem dX12_slip_103 : decode cX12_slip 103 = .ok (.ireturn, 1) := by decide +kernel
theorem dX12_slip_104 : decode cX12_slip 104 = .ok (.aload_n 0, 1) := by decide +kernel
theorem dX12_slip_105 : decode cX12_slip 105 = .ok (.iload_n 1, 1) := by decide +kernel
theorem dX12_slip_106 : decode cX12_slip 106 = .ok (.invokevirtual 289, 3) := by decide +kernel
theorem dX12_slip_109 : decode cX12_slip 109 = .ok (.istore 5, 2) := by decide +kernel
theorem dX12_slip_111 : decode cX12_slip 111 = .ok (.iload 5, 2) := by decide +kernel
theorem dX12_slip_113 : decode cX12_slip 113 = .ok (.aload_n 0, 1) := by decide +kernel
theorem dX12_slip_114 : decode cX12_slip 114 = .ok (.iconst 0, 1) := by decide +kernel
theorem dX12_slip_115 : decode cX12_slip 115 = .ok (.invokevirtual 254, 3) := by decide +kernel
theorem dX12_slip_118 : decode cX12_slip 118 = .ok (.if_icmp .ge 32, 3) := by decide +kernel
theorem dX12_slip_121 : decode cX12_slip 121 = .ok (.aload_n 0, 1) := by decide +kernel
theorem dX12_slip_122 : decode cX12_slip 122 = .ok (.getfield 35, 3) := by decide +kernel
theorem dX12_slip_125 : decode cX12_slip 125 = .ok (.iload 4, 2) := by decide +kernel
theorem dX12_slip_127 : decode cX12_slip 127 = .ok (.baload, 1) := by decide +kernel
theorem dX12_slip_128 : decode cX12_slip 128 = .ok (.ifCond .eq 25, 3) := by decide +kernel
theorem dX12_slip_131 : decode cX12_slip 131 = .ok (.aload_n 0, 1) := by decide +kernel
theorem dX12_slip_132 : decode cX12_slip 132 = .ok (.iconst 3, 1) := by decide +kernel
theorem dX12_slip_133 : decode cX12_slip 133 = .ok (.invokevirtual 254, 3) := by decide +kernel
theorem dX12_slip_136 : decode cX12_slip 136 = .ok (.ifCond .le 17, 3) := by decide +kernel
theorem dX12_slip_139 : decode cX12_slip 139 = .ok (.aload_n 0, 1) := by decide +kernel
theorem dX12_slip_140 : decode cX12_slip 140 = .ok (.aload_n 0, 1) := by decide +kernel
theorem dX12_slip_141 : decode cX12_slip 141 = .ok (.getfield 212, 3) := by decide +kernel
theorem dX12_slip_144 : decode cX12_slip 144 = .ok (.invokevirtual 292, 3) := by decide +kernel
theorem dX12_slip_147 : decode cX12_slip 147 = .ok (.ifCond .ne 6, 3) := by decide +kernel
theorem dX12_slip_150 : decode cX12_slip 150 = .ok (.bipush (-4), 2) := by decide +kernel
theorem dX12_slip_152 : decode cX12_slip 152 = .ok (.ireturn, 1) := by decide +kernel
theorem dX12_slip_153 : decode cX12_slip 153 = .ok (.aload_n 0, 1) := by decide +kernel
theorem dX12_slip_154 : decode cX12_slip 154 = .ok (.getfield 81, 3) := by decide +kernel
theorem dX12_slip_157 : decode cX12_slip 157 = .ok (.aload_n 0, 1) := by decide +kernel
theorem dX12_slip_158 : decode cX12_slip 158 = .ok (.getfield 286, 3) := by decide +kernel
theorem dX12_slip_161 : decode cX12_slip 161 = .ok (.iload_n 1, 1) := by decide +kernel
theorem dX12_slip_162 : decode cX12_slip 162 = .ok (.iastore, 1) := by decide +kernel
theorem dX12_slip_163 : decode cX12_slip 163 = .ok (.aload_n 0, 1) := by decide +kernel
theorem dX12_slip_164 : decode cX12_slip 164 = .ok (.getfield 84, 3) := by decide +kernel
theorem dX12_slip_167 : decode cX12_slip 167 = .ok (.aload_n 0, 1) := by decide +kernel
theorem dX12_slip_168 : decode cX12_slip 168 = .ok (.getfield 286, 3) := by decide +kernel
theorem dX12_slip_171 : decode cX12_slip 171 = .ok (.iload 4, 2) := by decide +kernel
theorem dX12_slip_173 : decode cX12_slip 173 = .ok (.iastore, 1) := by decide +kernel
theorem dX12_slip_174 : decode cX12_slip 174 = .ok (.aload_n 0, 1) := by decide +kernel
theorem dX12_slip_175 : decode cX12_slip 175 = .ok (.getfield 87, 3) := by decide +kernel
theorem dX12_slip_178 : decode cX12_slip 178 = .ok (.aload_n 0, 1) := by decide +kernel
theorem dX12_slip_179 : decode cX12_slip 179 = .ok (.getfield 286, 3) := by decide +kernel
theorem dX12_slip_182 : decode cX12_slip 182 = .ok (.aload_n 0, 1) := by decide +kernel
theorem dX12_slip_183 : decode cX12_slip 183 = .ok (.getfield 212, 3) := by decide +kernel
theorem dX12_slip_186 : decode cX12_slip 186 = .ok (.iastore, 1) := by decide +kernel
theorem dX12_slip_187 : decode cX12_slip 187 = .ok (.aload_n 0, 1) := by decide +kernel
theorem dX12_slip_188 : decode cX12_slip 188 = .ok (.getfield 93, 3) := by decide +kernel
theorem dX12_slip_191 : decode cX12_slip 191 = .ok (.aload_n 0, 1) := by decide +kernel
theorem dX12_slip_192 : decode cX12_slip 192 = .ok (.getfield 286, 3) := by decide +kernel
theorem dX12_slip_195 : decode cX12_slip 195 = .ok (.iload 5, 2) := by decide +kernel
theorem dX12_slip_197 : decode cX12_slip 197 = .ok (.iastore, 1) := by decide +kernel
theorem dX12_slip_198 : decode cX12_slip 198 = .ok (.aload_n 0, 1) := by decide +kernel
theorem dX12_slip_199 : decode cX12_slip 199 = .ok (.getfield 78, 3) := by decide +kernel
theorem dX12_slip_202 : decode cX12_slip 202 = .ok (.aload_n 0, 1) := by decide +kernel
theorem dX12_slip_203 : decode cX12_slip 203 = .ok (.getfield 286, 3) := by decide +kernel
theorem dX12_slip_206 : decode cX12_slip 206 = .ok (.aload_n 0, 1) := by decide +kernel
theorem dX12_slip_207 : decode cX12_slip 207 = .ok (.getfield 42, 3) := by decide +kernel
theorem dX12_slip_210 : decode cX12_slip 210 = .ok (.iload 4, 2) := by decide +kernel
theorem dX12_slip_212 : decode cX12_slip 212 = .ok (.iaload, 1) := by decide +kernel
theorem dX12_slip_213 : decode cX12_slip 213 = .ok (.ifCond .ne 7, 3) := by decide +kernel
theorem dX12_slip_216 : decode cX12_slip 216 = .ok (.iconst 0, 1) := by decide +kernel
theorem dX12_slip_217 : decode cX12_slip 217 = .ok (.goto 4, 3) := by decide +kernel
theorem dX12_slip_220 : decode cX12_slip 220 = .ok (.iconst 3, 1) := by decide +kernel
theorem dX12_slip_221 : decode cX12_slip 221 = .ok (.iastore, 1) := by decide +kernel
theorem dX12_slip_222 : decode cX12_slip 222 = .ok (.aload_n 0, 1) := by decide +kernel
theorem dX12_slip_223 : decode cX12_slip 223 = .ok (.getfield 90, 3) := by decide +kernel
theorem dX12_slip_226 : decode cX12_slip 226 = .ok (.aload_n 0, 1) := by decide +kernel
theorem dX12_slip_227 : decode cX12_slip 227 = .ok (.getfield 286, 3) := by decide +kernel
theorem dX12_slip_230 : decode cX12_slip 230 = .ok (.aload_n 0, 1) := by decide +kernel
theorem dX12_slip_231 : decode cX12_slip 231 = .ok (.getfield 42, 3) := by decide +kernel
theorem dX12_slip_234 : decode cX12_slip 234 = .ok (.iload 4, 2) := by decide +kernel
theorem dX12_slip_236 : decode cX12_slip 236 = .ok (.iaload, 1) := by decide +kernel
theorem dX12_slip_237 : decode cX12_slip 237 = .ok (.ifCond .ne 8, 3) := by decide +kernel
theorem dX12_slip_240 : decode cX12_slip 240 = .ok (.bipush (-9), 2) := by decide +kernel
theorem dX12_slip_242 : decode cX12_slip 242 = .ok (.goto 7, 3) := by decide +kernel
theorem dX12_slip_245 : decode cX12_slip 245 = .ok (.aload_n 0, 1) := by decide +kernel
theorem dX12_slip_246 : decode cX12_slip 246 = .ok (.getfield 212, 3) := by decide +kernel
theorem dX12_slip_249 : decode cX12_slip 249 = .ok (.iastore, 1) := by decide +kernel
theorem dX12_slip_250 : decode cX12_slip 250 = .ok (.aload_n 0, 1) := by decide +kernel
theorem dX12_slip_251 : decode cX12_slip 251 = .ok (.dup, 1) := by decide +kernel
theorem dX12_slip_252 : decode cX12_slip 252 = .ok (.getfield 286, 3) := by decide +kernel
theorem dX12_slip_255 : decode cX12_slip 255 = .ok (.iconst 1, 1) := by decide +kernel
theorem dX12_slip_256 : decode cX12_slip 256 = .ok (.iadd, 1) := by decide +kernel
theorem dX12_slip_257 : decode cX12_slip 257 = .ok (.putfield 286, 3) := by decide +kernel
theorem dX12_slip_260 : decode cX12_slip 260 = .ok (.aload_n 0, 1) := by decide +kernel
theorem dX12_slip_261 : decode cX12_slip 261 = .ok (.getfield 286, 3) := by decide +kernel
theorem dX12_slip_264 : decode cX12_slip 264 = .ok (.iconst 1, 1) := by decide +kernel
theorem dX12_slip_265 : decode cX12_slip 265 = .ok (.isub, 1) := by decide +kernel
theorem dX12_slip_266 : decode cX12_slip 266 = .ok (.ireturn, 1) := by decide +kernel
theorem dX12_slipTells_0 : decode cX12_slipTells 0 = .ok (.iload_n 2, 1) := by decide +kernel
theorem dX12_slipTells_1 : decode cX12_slipTells 1 = .ok (.ifCond .ne 12, 3) := by decide +kernel
theorem dX12_slipTells_4 : decode cX12_slipTells 4 = .ok (.aload_n 0, 1) := by decide +kernel
theorem dX12_slipTells_5 : decode cX12_slipTells 5 = .ok (.getfield 78, 3) := by decide +kernel
theorem dX12_slipTells_8 : decode cX12_slipTells 8 = .ok (.iload_n 1, 1) := by decide +kernel
theorem dX12_slipTells_9 : decode cX12_slipTells 9 = .ok (.iaload, 1) := by decide +kernel
theorem dX12_slipTells_10 : decode cX12_slipTells 10 = .ok (.goto 51, 3) := by decide +kernel
theorem dX12_slipTells_13 : decode cX12_slipTells 13 = .ok (.iload_n 2, 1) := by decide +kernel
theorem dX12_slipTells_14 : decode cX12_slipTells 14 = .ok (.iconst 1, 1) := by decide +kernel
theorem dX12_slipTells_15 : decode cX12_slipTells 15 = .ok (.if_icmp .ne 12, 3) := by decide +kernel
theorem dX12_slipTells_18 : decode cX12_slipTells 18 = .ok (.aload_n 0, 1) := by decide +kernel
theorem dX12_slipTells_19 : decode cX12_slipTells 19 = .ok (.getfield 81, 3) := by decide +kernel
theorem dX12_slipTells_22 : decode cX12_slipTells 22 = .ok (.iload_n 1, 1) := by decide +kernel
theorem dX12_slipTells_23 : decode cX12_slipTells 23 = .ok (.iaload, 1) := by decide +kernel
theorem dX12_slipTells_24 : decode cX12_slipTells 24 = .ok (.goto 37, 3) := by decide +kernel
theorem dX12_slipTells_27 : decode cX12_slipTells 27 = .ok (.iload_n 2, 1) := by decide +kernel
theorem dX12_slipTells_28 : decode cX12_slipTells 28 = .ok (.iconst 2, 1) := by decide +kernel
theorem dX12_slipTells_29 : decode cX12_slipTells 29 = .ok (.if_icmp .ne 12, 3) := by decide +kernel
theorem dX12_slipTells_32 : decode cX12_slipTells 32 = .ok (.aload_n 0, 1) := by decide +kernel
theorem dX12_slipTells_33 : decode cX12_slipTells 33 = .ok (.getfield 84, 3) := by decide +kernel
theorem dX12_slipTells_36 : decode cX12_slipTells 36 = .ok (.iload_n 1, 1) := by decide +kernel
theorem dX12_slipTells_37 : decode cX12_slipTells 37 = .ok (.iaload, 1) := by decide +kernel
theorem dX12_slipTells_38 : decode cX12_slipTells 38 = .ok (.goto 23, 3) := by decide +kernel
theorem dX12_slipTells_41 : decode cX12_slipTells 41 = .ok (.iload_n 2, 1) := by decide +kernel
theorem dX12_slipTells_42 : decode cX12_slipTells 42 = .ok (.iconst 3, 1) := by decide +kernel
theorem dX12_slipTells_43 : decode cX12_slipTells 43 = .ok (.if_icmp .ne 12, 3) := by decide +kernel
theorem dX12_slipTells_46 : decode cX12_slipTells 46 = .ok (.aload_n 0, 1) := by decide +kernel
theorem dX12_slipTells_47 : decode cX12_slipTells 47 = .ok (.getfield 87, 3) := by decide +kernel
theorem dX12_slipTells_50 : decode cX12_slipTells 50 = .ok (.iload_n 1, 1) := by decide +kernel
theorem dX12_slipTells_51 : decode cX12_slipTells 51 = .ok (.iaload, 1) := by decide +kernel
theorem dX12_slipTells_52 : decode cX12_slipTells 52 = .ok (.goto 9, 3) := by decide +kernel
theorem dX12_slipTells_55 : decode cX12_slipTells 55 = .ok (.aload_n 0, 1) := by decide +kernel
theorem dX12_slipTells_56 : decode cX12_slipTells 56 = .ok (.getfield 90, 3) := by decide +kernel
theorem dX12_slipTells_59 : decode cX12_slipTells 59 = .ok (.iload_n 1, 1) := by decide +kernel
theorem dX12_slipTells_60 : decode cX12_slipTells 60 = .ok (.iaload, 1) := by decide +kernel
theorem dX12_slipTells_61 : decode cX12_slipTells 61 = .ok (.ireturn, 1) := by decide +kernel
theorem dX12_slipTold_0 : decode cX12_slipTold 0 = .ok (.aload_n 0, 1) := by decide +kernel
theorem dX12_slipTold_1 : decode cX12_slipTold 1 = .ok (.iload_n 1, 1) := by decide +kernel
theorem dX12_slipTold_2 : decode cX12_slipTold 2 = .ok (.invokevirtual 295, 3) := by decide +kernel
theorem dX12_slipTold_5 : decode cX12_slipTold 5 = .ok (.ifCond .eq 26, 3) := by decide +kernel
theorem dX12_slipTold_8 : decode cX12_slipTold 8 = .ok (.iload_n 2, 1) := by decide +kernel
theorem dX12_slipTold_9 : decode cX12_slipTold 9 = .ok (.iconst 0, 1) := by decide +kernel
theorem dX12_slipTold_10 : decode cX12_slipTold 10 = .ok (.iconst 4, 1) := by decide +kernel
theorem dX12_slipTold_11 : decode cX12_slipTold 11 = .ok (.invokestatic 168, 3) := by decide +kernel
theorem dX12_slipTold_14 : decode cX12_slipTold 14 = .ok (.ifCond .eq 17, 3) := by decide +kernel
theorem dX12_slipTold_17 : decode cX12_slipTold 17 = .ok (.aload_n 0, 1) := by decide +kernel
theorem dX12_slipTold_18 : decode cX12_slipTold 18 = .ok (.aload_n 0, 1) := by decide +kernel
theorem dX12_slipTold_19 : decode cX12_slipTold 19 = .ok (.iload_n 1, 1) := by decide +kernel
theorem dX12_slipTold_20 : decode cX12_slipTold 20 = .ok (.iload_n 2, 1) := by decide +kernel
theorem dX12_slipTold_21 : decode cX12_slipTold 21 = .ok (.invokevirtual 298, 3) := by decide +kernel
theorem dX12_slipTold_24 : decode cX12_slipTold 24 = .ok (.iconst 1, 1) := by decide +kernel
theorem dX12_slipTold_25 : decode cX12_slipTold 25 = .ok (.invokevirtual 190, 3) := by decide +kernel
theorem dX12_slipTold_28 : decode cX12_slipTold 28 = .ok (.goto 4, 3) := by decide +kernel
theorem dX12_slipTold_31 : decode cX12_slipTold 31 = .ok (.iconst (-1), 1) := by decide +kernel
theorem dX12_slipTold_32 : decode cX12_slipTold 32 = .ok (.ireturn, 1) := by decide +kernel
theorem dX12_isFetcher_0 : decode cX12_isFetcher 0 = .ok (.iload_n 0, 1) := by decide +kernel
theorem dX12_isFetcher_1 : decode cX12_isFetcher 1 = .ok (.iconst 0, 1) := by decide +kernel
theorem dX12_isFetcher_2 : decode cX12_isFetcher 2 = .ok (.iconst 2, 1) := by decide +kernel
theorem dX12_isFetcher_3 : decode cX12_isFetcher 3 = .ok (.invokestatic 168, 3) := by decide +kernel
theorem dX12_isFetcher_6 : decode cX12_isFetcher 6 = .ok (.ireturn, 1) := by decide +kernel
theorem dX12_pace_0 : decode cX12_pace 0 = .ok (.iload_n 1, 1) := by decide +kernel
theorem dX12_pace_1 : decode cX12_pace 1 = .ok (.invokestatic 301, 3) := by decide +kernel
theorem dX12_pace_4 : decode cX12_pace 4 = .ok (.ifCond .eq 13, 3) := by decide +kernel
theorem dX12_pace_7 : decode cX12_pace 7 = .ok (.iload_n 2, 1) := by decide +kernel
theorem dX12_pace_8 : decode cX12_pace 8 = .ok (.iconst 1, 1) := by decide +kernel
theorem dX12_pace_9 : decode cX12_pace 9 = .ok (.bipush 9, 2) := by decide +kernel
theorem dX12_pace_11 : decode cX12_pace 11 = .ok (.invokestatic 168, 3) := by decide +kernel
theorem dX12_pace_14 : decode cX12_pace 14 = .ok (.ifCond .ne 5, 3) := by decide +kernel
theorem dX12_pace_17 : decode cX12_pace 17 = .ok (.iconst (-1), 1) := by decide +kernel
theorem dX12_pace_18 : decode cX12_pace 18 = .ok (.ireturn, 1) := by decide +kernel
theorem dX12_pace_19 : decode cX12_pace 19 = .ok (.aload_n 0, 1) := by decide +kernel
theorem dX12_pace_20 : decode cX12_pace 20 = .ok (.getfield 96, 3) := by decide +kernel
theorem dX12_pace_23 : decode cX12_pace 23 = .ok (.iload_n 1, 1) := by decide +kernel
theorem dX12_pace_24 : decode cX12_pace 24 = .ok (.iaload, 1) := by decide +kernel
theorem dX12_pace_25 : decode cX12_pace 25 = .ok (.istore_n 3, 1) := by decide +kernel
theorem dX12_pace_26 : decode cX12_pace 26 = .ok (.aload_n 0, 1) := by decide +kernel
theorem dX12_pace_27 : decode cX12_pace 27 = .ok (.getfield 96, 3) := by decide +kernel
theorem dX12_pace_30 : decode cX12_pace 30 = .ok (.iload_n 1, 1) := by decide +kernel
theorem dX12_pace_31 : decode cX12_pace 31 = .ok (.iload_n 2, 1) := by decide +kernel
theorem dX12_pace_32 : decode cX12_pace 32 = .ok (.iastore, 1) := by decide +kernel
theorem dX12_pace_33 : decode cX12_pace 33 = .ok (.iload_n 3, 1) := by decide +kernel
theorem dX12_pace_34 : decode cX12_pace 34 = .ok (.ireturn, 1) := by decide +kernel
theorem dX12_free_0 : decode cX12_free 0 = .ok (.iload_n 1, 1) := by decide +kernel
theorem dX12_free_1 : decode cX12_free 1 = .ok (.invokestatic 301, 3) := by decide +kernel
theorem dX12_free_4 : decode cX12_free 4 = .ok (.ifCond .eq 12, 3) := by decide +kernel
theorem dX12_free_7 : decode cX12_free 7 = .ok (.aload_n 0, 1) := by decide +kernel
theorem dX12_free_8 : decode cX12_free 8 = .ok (.getfield 99, 3) := by decide +kernel
theorem dX12_free_11 : decode cX12_free 11 = .ok (.iload_n 1, 1) := by decide +kernel
theorem dX12_free_12 : decode cX12_free 12 = .ok (.iaload, 1) := by decide +kernel
theorem dX12_free_13 : decode cX12_free 13 = .ok (.goto 4, 3) := by decide +kernel
theorem dX12_free_16 : decode cX12_free 16 = .ok (.iconst (-1), 1) := by decide +kernel
theorem dX12_free_17 : decode cX12_free 17 = .ok (.ireturn, 1) := by decide +kernel
theorem dX12_takesOf_0 : decode cX12_takesOf 0 = .ok (.iconst 2, 1) := by decide +kernel
theorem dX12_takesOf_1 : decode cX12_takesOf 1 = .ok (.aload_n 0, 1) := by decide +kernel
theorem dX12_takesOf_2 : decode cX12_takesOf 2 = .ok (.getfield 32, 3) := by decide +kernel
theorem dX12_takesOf_5 : decode cX12_takesOf 5 = .ok (.aload_n 0, 1) := by decide +kernel
theorem dX12_takesOf_6 : decode cX12_takesOf 6 = .ok (.getfield 84, 3) := by decide +kernel
theorem dX12_takesOf_9 : decode cX12_takesOf 9 = .ok (.iload_n 2, 1) := by decide +kernel
theorem dX12_takesOf_10 : decode cX12_takesOf 10 = .ok (.iaload, 1) := by decide +kernel
theorem dX12_takesOf_11 : decode cX12_takesOf 11 = .ok (.iaload, 1) := by decide +kernel
theorem dX12_takesOf_12 : decode cX12_takesOf 12 = .ok (.iconst 2, 1) := by decide +kernel
theorem dX12_takesOf_13 : decode cX12_takesOf 13 = .ok (.idiv, 1) := by decide +kernel
theorem dX12_takesOf_14 : decode cX12_takesOf 14 = .ok (.imul, 1) := by decide +kernel
theorem dX12_takesOf_15 : decode cX12_takesOf 15 = .ok (.aload_n 0, 1) := by decide +kernel
theorem dX12_takesOf_16 : decode cX12_takesOf 16 = .ok (.getfield 96, 3) := by decide +kernel
theorem dX12_takesOf_19 : decode cX12_takesOf 19 = .ok (.iload_n 1, 1) := by decide +kernel
theorem dX12_takesOf_20 : decode cX12_takesOf 20 = .ok (.iaload, 1) := by decide +kernel
theorem dX12_takesOf_21 : decode cX12_takesOf 21 = .ok (.imul, 1) := by decide +kernel
theorem dX12_takesOf_22 : decode cX12_takesOf 22 = .ok (.iconst 4, 1) := by decide +kernel
theorem dX12_takesOf_23 : decode cX12_takesOf 23 = .ok (.iadd, 1) := by decide +kernel
theorem dX12_takesOf_24 : decode cX12_takesOf 24 = .ok (.ireturn, 1) := by decide +kernel
theorem dX12_takes_0 : decode cX12_takes 0 = .ok (.iload_n 1, 1) := by decide +kernel
theorem dX12_takes_1 : decode cX12_takes 1 = .ok (.invokestatic 301, 3) := by decide +kernel
theorem dX12_takes_4 : decode cX12_takes 4 = .ok (.ifCond .eq 20, 3) := by decide +kernel
theorem dX12_takes_7 : decode cX12_takes 7 = .ok (.aload_n 0, 1) := by decide +kernel
theorem dX12_takes_8 : decode cX12_takes 8 = .ok (.iload_n 2, 1) := by decide +kernel
theorem dX12_takes_9 : decode cX12_takes 9 = .ok (.invokevirtual 295, 3) := by decide +kernel
theorem dX12_takes_12 : decode cX12_takes 12 = .ok (.ifCond .eq 12, 3) := by decide +kernel
theorem dX12_takes_15 : decode cX12_takes 15 = .ok (.aload_n 0, 1) := by decide +kernel
theorem dX12_takes_16 : decode cX12_takes 16 = .ok (.iload_n 1, 1) := by decide +kernel
theorem dX12_takes_17 : decode cX12_takes 17 = .ok (.iload_n 2, 1) := by decide +kernel
theorem dX12_takes_18 : decode cX12_takes 18 = .ok (.invokevirtual 304, 3) := by decide +kernel
theorem dX12_takes_21 : decode cX12_takes 21 = .ok (.goto 4, 3) := by decide +kernel
theorem dX12_takes_24 : decode cX12_takes 24 = .ok (.iconst (-1), 1) := by decide +kernel
theorem dX12_takes_25 : decode cX12_takes 25 = .ok (.ireturn, 1) := by decide +kernel
theorem dX12_looks_0 : decode cX12_looks 0 = .ok (.aload_n 0, 1) := by decide +kernel
theorem dX12_looks_1 : decode cX12_looks 1 = .ok (.getfield 307, 3) := by decide +kernel
theorem dX12_looks_4 : decode cX12_looks 4 = .ok (.bipush 40, 2) := by decide +kernel
theorem dX12_looks_6 : decode cX12_looks 6 = .ok (.if_icmp .ge 46, 3) := by decide +kernel
theorem dX12_looks_9 : decode cX12_looks 9 = .ok (.aload_n 0, 1) := by decide +kernel
theorem dX12_looks_10 : decode cX12_looks 10 = .ok (.getfield 102, 3) := by decide +kernel
theorem dX12_looks_13 : decode cX12_looks 13 = .ok (.aload_n 0, 1) := by decide +kernel
theorem dX12_looks_14 : decode cX12_looks 14 = .ok (.getfield 307, 3) := by decide +kernel
theorem dX12_looks_17 : decode cX12_looks 17 = .ok (.iload_n 1, 1) := by decide +kernel
theorem dX12_looks_18 : decode cX12_looks 18 = .ok (.iastore, 1) := by decide +kernel
theorem dX12_looks_19 : decode cX12_looks 19 = .ok (.aload_n 0, 1) := by decide +kernel
theorem dX12_looks_20 : decode cX12_looks 20 = .ok (.getfield 105, 3) := by decide +kernel
theorem dX12_looks_23 : decode cX12_looks 23 = .ok (.aload_n 0, 1) := by decide +kernel
theorem dX12_looks_24 : decode cX12_looks 24 = .ok (.getfield 307, 3) := by decide +kernel
theorem dX12_looks_27 : decode cX12_looks 27 = .ok (.aload_n 0, 1) := by decide +kernel
theorem dX12_looks_28 : decode cX12_looks 28 = .ok (.getfield 212, 3) := by decide +kernel
theorem dX12_looks_31 : decode cX12_looks 31 = .ok (.iastore, 1) := by decide +kernel
theorem dX12_looks_32 : decode cX12_looks 32 = .ok (.aload_n 0, 1) := by decide +kernel
theorem dX12_looks_33 : decode cX12_looks 33 = .ok (.getfield 108, 3) := by decide +kernel
theorem dX12_looks_36 : decode cX12_looks 36 = .ok (.aload_n 0, 1) := by decide +kernel
theorem dX12_looks_37 : decode cX12_looks 37 = .ok (.getfield 307, 3) := by decide +kernel
theorem dX12_looks_40 : decode cX12_looks 40 = .ok (.iload_n 2, 1) := by decide +kernel
theorem dX12_looks_41 : decode cX12_looks 41 = .ok (.iastore, 1) := by decide +kernel
theorem dX12_looks_42 : decode cX12_looks 42 = .ok (.aload_n 0, 1) := by decide +kernel
theorem dX12_looks_43 : decode cX12_looks 43 = .ok (.dup, 1) := by decide +kernel
theorem dX12_looks_44 : decode cX12_looks 44 = .ok (.getfield 307, 3) := by decide +kernel
theorem dX12_looks_47 : decode cX12_looks 47 = .ok (.iconst 1, 1) := by decide +kernel
theorem dX12_looks_48 : decode cX12_looks 48 = .ok (.iadd, 1) := by decide +kernel
theorem dX12_looks_49 : decode cX12_looks 49 = .ok (.putfield 307, 3) := by decide +kernel
theorem dX12_looks_52 : decode cX12_looks 52 = .ok (.return_, 1) := by decide +kernel
theorem dX12_send_0 : decode cX12_send 0 = .ok (.iload_n 1, 1) := by decide +kernel
theorem dX12_send_1 : decode cX12_send 1 = .ok (.invokestatic 301, 3) := by decide +kernel
theorem dX12_send_4 : decode cX12_send 4 = .ok (.ifCond .eq 11, 3) := by decide +kernel
theorem dX12_send_7 : decode cX12_send 7 = .ok (.aload_n 0, 1) := by decide +kernel
theorem dX12_send_8 : decode cX12_send 8 = .ok (.iload_n 2, 1) := by decide +kernel
theorem dX12_send_9 : decode cX12_send 9 = .ok (.invokevirtual 295, 3) := by decide +kernel
theorem dX12_send_12 : decode cX12_send 12 = .ok (.ifCond .ne 5, 3) := by decide +kernel
theorem dX12_send_15 : decode cX12_send 15 = .ok (.iconst (-1), 1) := by decide +kernel
theorem dX12_send_16 : decode cX12_send 16 = .ok (.ireturn, 1) := by decide +kernel
theorem dX12_send_17 : decode cX12_send 17 = .ok (.aload_n 0, 1) := by decide +kernel
theorem dX12_send_18 : decode cX12_send 18 = .ok (.getfield 99, 3) := by decide +kernel
theorem dX12_send_21 : decode cX12_send 21 = .ok (.iload_n 1, 1) := by decide +kernel
theorem dX12_send_22 : decode cX12_send 22 = .ok (.iaload, 1) := by decide +kernel
theorem dX12_send_23 : decode cX12_send 23 = .ok (.aload_n 0, 1) := by decide +kernel
theorem dX12_send_24 : decode cX12_send 24 = .ok (.getfield 212, 3) := by decide +kernel
theorem dX12_send_27 : decode cX12_send 27 = .ok (.if_icmp .gt 28, 3) := by decide +kernel
theorem dX12_send_30 : decode cX12_send 30 = .ok (.aload_n 0, 1) := by decide +kernel
theorem dX12_send_31 : decode cX12_send 31 = .ok (.getfield 78, 3) := by decide +kernel
theorem dX12_send_34 : decode cX12_send 34 = .ok (.iload_n 2, 1) := by decide +kernel
theorem dX12_send_35 : decode cX12_send 35 = .ok (.iaload, 1) := by decide +kernel
theorem dX12_send_36 : decode cX12_send 36 = .ok (.ifCond .ne 19, 3) := by decide +kernel
theorem dX12_send_39 : decode cX12_send 39 = .ok (.aload_n 0, 1) := by decide +kernel
theorem dX12_send_40 : decode cX12_send 40 = .ok (.getfield 212, 3) := by decide +kernel
theorem dX12_send_43 : decode cX12_send 43 = .ok (.aload_n 0, 1) := by decide +kernel
theorem dX12_send_44 : decode cX12_send 44 = .ok (.iload_n 1, 1) := by decide +kernel
theorem dX12_send_45 : decode cX12_send 45 = .ok (.iload_n 2, 1) := by decide +kernel
theorem dX12_send_46 : decode cX12_send 46 = .ok (.invokevirtual 304, 3) := by decide +kernel
theorem dX12_send_49 : decode cX12_send 49 = .ok (.iadd, 1) := by decide +kernel
theorem dX12_send_50 : decode cX12_send 50 = .ok (.ldc 205, 2) := by decide +kernel
theorem dX12_send_52 : decode cX12_send 52 = .ok (.if_icmp .le 6, 3) := by decide +kernel
theorem dX12_send_55 : decode cX12_send 55 = .ok (.bipush (-4), 2) := by decide +kernel
theorem dX12_send_57 : decode cX12_send 57 = .ok (.ireturn, 1) := by decide +kernel
theorem dX12_send_58 : decode cX12_send 58 = .ok (.aload_n 0, 1) := by decide +kernel
theorem dX12_send_59 : decode cX12_send 59 = .ok (.getfield 84, 3) := by decide +kernel
theorem dX12_send_62 : decode cX12_send 62 = .ok (.iload_n 2, 1) := by decide +kernel
theorem dX12_send_63 : decode cX12_send 63 = .ok (.iaload, 1) := by decide +kernel
theorem dX12_send_64 : decode cX12_send 64 = .ok (.istore_n 3, 1) := by decide +kernel
theorem dX12_send_65 : decode cX12_send 65 = .ok (.aload_n 0, 1) := by decide +kernel
theorem dX12_send_66 : decode cX12_send 66 = .ok (.getfield 99, 3) := by decide +kernel
theorem dX12_send_69 : decode cX12_send 69 = .ok (.iload_n 1, 1) := by decide +kernel
theorem dX12_send_70 : decode cX12_send 70 = .ok (.aload_n 0, 1) := by decide +kernel
theorem dX12_send_71 : decode cX12_send 71 = .ok (.getfield 212, 3) := by decide +kernel
theorem dX12_send_74 : decode cX12_send 74 = .ok (.aload_n 0, 1) := by decide +kernel
theorem dX12_send_75 : decode cX12_send 75 = .ok (.iload_n 1, 1) := by decide +kernel
theorem dX12_send_76 : decode cX12_send 76 = .ok (.iload_n 2, 1) := by decide +kernel
theorem dX12_send_77 : decode cX12_send 77 = .ok (.invokevirtual 304, 3) := by decide +kernel
theorem dX12_send_80 : decode cX12_send 80 = .ok (.iadd, 1) := by decide +kernel
theorem dX12_send_81 : decode cX12_send 81 = .ok (.iastore, 1) := by decide +kernel
theorem dX12_send_82 : decode cX12_send 82 = .ok (.aload_n 0, 1) := by decide +kernel
theorem dX12_send_83 : decode cX12_send 83 = .ok (.getfield 39, 3) := by decide +kernel
theorem dX12_send_86 : decode cX12_send 86 = .ok (.iload_n 3, 1) := by decide +kernel
theorem dX12_send_87 : decode cX12_send 87 = .ok (.iaload, 1) := by decide +kernel
theorem dX12_send_88 : decode cX12_send 88 = .ok (.ifCond .ne 52, 3) := by decide +kernel
theorem dX12_send_91 : decode cX12_send 91 = .ok (.aload_n 0, 1) := by decide +kernel
theorem dX12_send_92 : decode cX12_send 92 = .ok (.getfield 39, 3) := by decide +kernel
theorem dX12_send_95 : decode cX12_send 95 = .ok (.iload_n 3, 1) := by decide +kernel
theorem dX12_send_96 : decode cX12_send 96 = .ok (.iconst 5, 1) := by decide +kernel
theorem dX12_send_97 : decode cX12_send 97 = .ok (.iastore, 1) := by decide +kernel
theorem dX12_send_98 : decode cX12_send 98 = .ok (.aload_n 0, 1) := by decide +kernel
theorem dX12_send_99 : decode cX12_send 99 = .ok (.getfield 42, 3) := by decide +kernel
theorem dX12_send_102 : decode cX12_send 102 = .ok (.iload_n 3, 1) := by decide +kernel
theorem dX12_send_103 : decode cX12_send 103 = .ok (.iconst 1, 1) := by decide +kernel
theorem dX12_send_104 : decode cX12_send 104 = .ok (.iastore, 1) := by decide +kernel
theorem dX12_send_105 : decode cX12_send 105 = .ok (.aload_n 0, 1) := by decide +kernel
theorem dX12_send_106 : decode cX12_send 106 = .ok (.getfield 45, 3) := by decide +kernel
theorem dX12_send_109 : decode cX12_send 109 = .ok (.iload_n 3, 1) := by decide +kernel
theorem dX12_send_110 : decode cX12_send 110 = .ok (.iload_n 1, 1) := by decide +kernel
theorem dX12_send_111 : decode cX12_send 111 = .ok (.iastore, 1) := by decide +kernel
theorem dX12_send_112 : decode cX12_send 112 = .ok (.aload_n 0, 1) := by decide +kernel
theorem dX12_send_113 : decode cX12_send 113 = .ok (.getfield 48, 3) := by decide +kernel
theorem dX12_send_116 : decode cX12_send 116 = .ok (.iload_n 3, 1) := by decide +kernel
theorem dX12_send_117 : decode cX12_send 117 = .ok (.aload_n 0, 1) := by decide +kernel
theorem dX12_send_118 : decode cX12_send 118 = .ok (.getfield 99, 3) := by decide +kernel
theorem dX12_send_121 : decode cX12_send 121 = .ok (.iload_n 1, 1) := by decide +kernel
theorem dX12_send_122 : decode cX12_send 122 = .ok (.iaload, 1) := by decide +kernel
theorem dX12_send_123 : decode cX12_send 123 = .ok (.iastore, 1) := by decide +kernel
theorem dX12_send_124 : decode cX12_send 124 = .ok (.aload_n 0, 1) := by decide +kernel
theorem dX12_send_125 : decode cX12_send 125 = .ok (.getfield 51, 3) := by decide +kernel
theorem dX12_send_128 : decode cX12_send 128 = .ok (.iload_n 3, 1) := by decide +kernel
theorem dX12_send_129 : decode cX12_send 129 = .ok (.iload_n 2, 1) := by decide +kernel
theorem dX12_send_130 : decode cX12_send 130 = .ok (.iastore, 1) := by decide +kernel
theorem dX12_send_131 : decode cX12_send 131 = .ok (.aload_n 0, 1) := by decide +kernel
theorem dX12_send_132 : decode cX12_send 132 = .ok (.getfield 78, 3) := by decide +kernel
theorem dX12_send_135 : decode cX12_send 135 = .ok (.iload_n 2, 1) := by decide +kernel
theorem dX12_send_136 : decode cX12_send 136 = .ok (.iconst 1, 1) := by decide +kernel
theorem dX12_send_137 : decode cX12_send 137 = .ok (.iastore, 1) := by decide +kernel
theorem dX12_send_138 : decode cX12_send 138 = .ok (.iconst 1, 1) := by decide +kernel
theorem dX12_send_139 : decode cX12_send 139 = .ok (.ireturn, 1) := by decide +kernel
theorem dX12_send_140 : decode cX12_send 140 = .ok (.aload_n 0, 1) := by decide +kernel
theorem dX12_send_141 : decode cX12_send 141 = .ok (.getfield 78, 3) := by decide +kernel
theorem dX12_send_144 : decode cX12_send 144 = .ok (.iload_n 2, 1) := by decide +kernel
theorem dX12_send_145 : decode cX12_send 145 = .ok (.iconst 3, 1) := by decide +kernel
theorem dX12_send_146 : decode cX12_send 146 = .ok (.iastore, 1) := by decide +kernel
theorem dX12_send_147 : decode cX12_send 147 = .ok (.aload_n 0, 1) := by decide +kernel
theorem dX12_send_148 : decode cX12_send 148 = .ok (.getfield 90, 3) := by decide +kernel
theorem dX12_send_151 : decode cX12_send 151 = .ok (.iload_n 2, 1) := by decide +kernel
theorem dX12_send_152 : decode cX12_send 152 = .ok (.aload_n 0, 1) := by decide +kernel
theorem dX12_send_153 : decode cX12_send 153 = .ok (.getfield 212, 3) := by decide +kernel
theorem dX12_send_156 : decode cX12_send 156 = .ok (.iastore, 1) := by decide +kernel
theorem dX12_send_157 : decode cX12_send 157 = .ok (.aload_n 0, 1) := by decide +kernel
theorem dX12_send_158 : decode cX12_send 158 = .ok (.getfield 42, 3) := by decide +kernel
theorem dX12_send_161 : decode cX12_send 161 = .ok (.iload_n 3, 1) := by decide +kernel
theorem dX12_send_162 : decode cX12_send 162 = .ok (.iaload, 1) := by decide +kernel
theorem dX12_send_163 : decode cX12_send 163 = .ok (.ifCond .ne 16, 3) := by decide +kernel
theorem dX12_send_166 : decode cX12_send 166 = .ok (.aload_n 0, 1) := by decide +kernel
theorem dX12_send_167 : decode cX12_send 167 = .ok (.getfield 42, 3) := by decide +kernel
theorem dX12_send_170 : decode cX12_send 170 = .ok (.iload_n 3, 1) := by decide +kernel
theorem dX12_send_171 : decode cX12_send 171 = .ok (.iconst 3, 1) := by decide +kernel
theorem dX12_send_172 : decode cX12_send 172 = .ok (.iastore, 1) := by decide +kernel
theorem dX12_send_173 : decode cX12_send 173 = .ok (.aload_n 0, 1) := by decide +kernel
theorem dX12_send_174 : decode cX12_send 174 = .ok (.iload_n 3, 1) := by decide +kernel
theorem dX12_send_175 : decode cX12_send 175 = .ok (.iconst 0, 1) := by decide +kernel
theorem dX12_send_176 : decode cX12_send 176 = .ok (.invokevirtual 310, 3) := by decide +kernel
theorem dX12_send_179 : decode cX12_send 179 = .ok (.iconst 0, 1) := by decide +kernel
theorem dX12_send_180 : decode cX12_send 180 = .ok (.ireturn, 1) := by decide +kernel
theorem dX12_freeFrom_0 : decode cX12_freeFrom 0 = .ok (.aload_n 0, 1) := by decide +kernel
theorem dX12_freeFrom_1 : decode cX12_freeFrom 1 = .ok (.getfield 99, 3) := by decide +kernel
theorem dX12_freeFrom_4 : decode cX12_freeFrom 4 = .ok (.iload_n 1, 1) := by decide +kernel
theorem dX12_freeFrom_5 : decode cX12_freeFrom 5 = .ok (.iaload, 1) := by decide +kernel
theorem dX12_freeFrom_6 : decode cX12_freeFrom 6 = .ok (.aload_n 0, 1) := by decide +kernel
theorem dX12_freeFrom_7 : decode cX12_freeFrom 7 = .ok (.getfield 212, 3) := by decide +kernel
theorem dX12_freeFrom_10 : decode cX12_freeFrom 10 = .ok (.if_icmp .le 12, 3) := by decide +kernel
theorem dX12_freeFrom_13 : decode cX12_freeFrom 13 = .ok (.aload_n 0, 1) := by decide +kernel
theorem dX12_freeFrom_14 : decode cX12_freeFrom 14 = .ok (.getfield 99, 3) := by decide +kernel
theorem dX12_freeFrom_17 : decode cX12_freeFrom 17 = .ok (.iload_n 1, 1) := by decide +kernel
theorem dX12_freeFrom_18 : decode cX12_freeFrom 18 = .ok (.iaload, 1) := by decide +kernel
theorem dX12_freeFrom_19 : decode cX12_freeFrom 19 = .ok (.goto 7, 3) := by decide +kernel
theorem dX12_freeFrom_22 : decode cX12_freeFrom 22 = .ok (.aload_n 0, 1) := by decide +kernel
theorem dX12_freeFrom_23 : decode cX12_freeFrom 23 = .ok (.getfield 212, 3) := by decide +kernel
theorem dX12_freeFrom_26 : decode cX12_freeFrom 26 = .ok (.ireturn, 1) := by decide +kernel
theorem dX12_foretell_0 : decode cX12_foretell 0 = .ok (.aload_n 0, 1) := by decide +kernel
theorem dX12_foretell_1 : decode cX12_foretell 1 = .ok (.iload_n 1, 1) := by decide +kernel
theorem dX12_foretell_2 : decode cX12_foretell 2 = .ok (.invokevirtual 295, 3) := by decide +kernel
theorem dX12_foretell_5 : decode cX12_foretell 5 = .ok (.ifCond .ne 5, 3) := by decide +kernel
theorem dX12_foretell_8 : decode cX12_foretell 8 = .ok (.iconst (-1), 1) := by decide +kernel
theorem dX12_foretell_9 : decode cX12_foretell 9 = .ok (.ireturn, 1) := by decide +kernel
theorem dX12_foretell_10 : decode cX12_foretell 10 = .ok (.aload_n 0, 1) := by decide +kernel
theorem dX12_foretell_11 : decode cX12_foretell 11 = .ok (.getfield 78, 3) := by decide +kernel
theorem dX12_foretell_14 : decode cX12_foretell 14 = .ok (.iload_n 1, 1) := by decide +kernel
theorem dX12_foretell_15 : decode cX12_foretell 15 = .ok (.iaload, 1) := by decide +kernel
theorem dX12_foretell_16 : decode cX12_foretell 16 = .ok (.ifCond .eq 6, 3) := by decide +kernel
theorem dX12_foretell_19 : decode cX12_foretell 19 = .ok (.bipush (-4), 2) := by decide +kernel
theorem dX12_foretell_21 : decode cX12_foretell 21 = .ok (.ireturn, 1) := by decide +kernel
theorem dX12_foretell_22 : decode cX12_foretell 22 = .ok (.iconst 0, 1) := by decide +kernel
theorem dX12_foretell_23 : decode cX12_foretell 23 = .ok (.istore_n 2, 1) := by decide +kernel
theorem dX12_foretell_24 : decode cX12_foretell 24 = .ok (.iload_n 2, 1) := by decide +kernel
theorem dX12_foretell_25 : decode cX12_foretell 25 = .ok (.iconst 3, 1) := by decide +kernel
theorem dX12_foretell_26 : decode cX12_foretell 26 = .ok (.if_icmp .ge 20, 3) := by decide +kernel
theorem dX12_foretell_29 : decode cX12_foretell 29 = .ok (.aload_n 0, 1) := by decide +kernel
theorem dX12_foretell_30 : decode cX12_foretell 30 = .ok (.getfield 111, 3) := by decide +kernel
theorem dX12_foretell_33 : decode cX12_foretell 33 = .ok (.iload_n 2, 1) := by decide +kernel
theorem dX12_foretell_34 : decode cX12_foretell 34 = .ok (.aload_n 0, 1) := by decide +kernel
theorem dX12_foretell_35 : decode cX12_foretell 35 = .ok (.iload_n 2, 1) := by decide +kernel
theorem dX12_foretell_36 : decode cX12_foretell 36 = .ok (.invokevirtual 313, 3) := by decide +kernel
theorem dX12_foretell_39 : decode cX12_foretell 39 = .ok (.iastore, 1) := by decide +kernel
theorem dX12_foretell_40 : decode cX12_foretell 40 = .ok (.iinc 2 1, 3) := by decide +kernel
theorem dX12_foretell_43 : decode cX12_foretell 43 = .ok (.goto (-19), 3) := by decide +kernel
theorem dX12_foretell_46 : decode cX12_foretell 46 = .ok (.iconst 0, 1) := by decide +kernel
theorem dX12_foretell_47 : decode cX12_foretell 47 = .ok (.istore_n 2, 1) := by decide +kernel
theorem dX12_foretell_48 : decode cX12_foretell 48 = .ok (.iload_n 2, 1) := by decide +kernel
theorem dX12_foretell_49 : decode cX12_foretell 49 = .ok (.iload_n 1, 1) := by decide +kernel
theorem dX12_foretell_50 : decode cX12_foretell 50 = .ok (.if_icmp .gt 105, 3) := by decide +kernel
theorem dX12_foretell_53 : decode cX12_foretell 53 = .ok (.aload_n 0, 1) := by decide +kernel
theorem dX12_foretell_54 : decode cX12_foretell 54 = .ok (.getfield 78, 3) := by decide +kernel
theorem dX12_foretell_57 : decode cX12_foretell 57 = .ok (.iload_n 2, 1) := by decide +kernel
theorem dX12_foretell_58 : decode cX12_foretell 58 = .ok (.iaload, 1) := by decide +kernel
theorem dX12_foretell_59 : decode cX12_foretell 59 = .ok (.ifCond .ne 90, 3) := by decide +kernel
theorem dX12_foretell_62 : decode cX12_foretell 62 = .ok (.iconst 0, 1) := by decide +kernel
theorem dX12_foretell_63 : decode cX12_foretell 63 = .ok (.istore_n 3, 1) := by decide +kernel
theorem dX12_foretell_64 : decode cX12_foretell 64 = .ok (.iconst 1, 1) := by decide +kernel
theorem dX12_foretell_65 : decode cX12_foretell 65 = .ok (.istore 4, 2) := by decide +kernel
theorem dX12_foretell_67 : decode cX12_foretell 67 = .ok (.iload 4, 2) := by decide +kernel
theorem dX12_foretell_69 : decode cX12_foretell 69 = .ok (.iconst 3, 1) := by decide +kernel
theorem dX12_foretell_70 : decode cX12_foretell 70 = .ok (.if_icmp .ge 47, 3) := by decide +kernel
theorem dX12_foretell_73 : decode cX12_foretell 73 = .ok (.aload_n 0, 1) := by decide +kernel
theorem dX12_foretell_74 : decode cX12_foretell 74 = .ok (.getfield 111, 3) := by decide +kernel
theorem dX12_foretell_77 : decode cX12_foretell 77 = .ok (.iload 4, 2) := by decide +kernel
theorem dX12_foretell_79 : decode cX12_foretell 79 = .ok (.iaload, 1) := by decide +kernel
theorem dX12_foretell_80 : decode cX12_foretell 80 = .ok (.aload_n 0, 1) := by decide +kernel
theorem dX12_foretell_81 : decode cX12_foretell 81 = .ok (.iload 4, 2) := by decide +kernel
theorem dX12_foretell_83 : decode cX12_foretell 83 = .ok (.iload_n 2, 1) := by decide +kernel
theorem dX12_foretell_84 : decode cX12_foretell 84 = .ok (.invokevirtual 304, 3) := by decide +kernel
theorem dX12_foretell_87 : decode cX12_foretell 87 = .ok (.iadd, 1) := by decide +kernel
theorem dX12_foretell_88 : decode cX12_foretell 88 = .ok (.aload_n 0, 1) := by decide +kernel
theorem dX12_foretell_89 : decode cX12_foretell 89 = .ok (.getfield 111, 3) := by decide +kernel
theorem dX12_foretell_92 : decode cX12_foretell 92 = .ok (.iload_n 3, 1) := by decide +kernel
theorem dX12_foretell_93 : decode cX12_foretell 93 = .ok (.iaload, 1) := by decide +kernel
theorem dX12_foretell_94 : decode cX12_foretell 94 = .ok (.aload_n 0, 1) := by decide +kernel
theorem dX12_foretell_95 : decode cX12_foretell 95 = .ok (.iload_n 3, 1) := by decide +kernel
theorem dX12_foretell_96 : decode cX12_foretell 96 = .ok (.iload_n 2, 1) := by decide +kernel
theorem dX12_foretell_97 : decode cX12_foretell 97 = .ok (.invokevirtual 304, 3) := by decide +kernel
theorem dX12_foretell_100 : decode cX12_foretell 100 = .ok (.iadd, 1) := by decide +kernel
theorem dX12_foretell_101 : decode cX12_foretell 101 = .ok (.if_icmp .ge 8, 3) := by decide +kernel
theorem dX12_foretell_104 : decode cX12_foretell 104 = .ok (.iload 4, 2) := by decide +kernel
theorem dX12_foretell_106 : decode cX12_foretell 106 = .ok (.goto 4, 3) := by decide +kernel
theorem dX12_foretell_109 : decode cX12_foretell 109 = .ok (.iload_n 3, 1) := by decide +kernel
theorem dX12_foretell_110 : decode cX12_foretell 110 = .ok (.istore_n 3, 1) := by decide +kernel
theorem dX12_foretell_111 : decode cX12_foretell 111 = .ok (.iinc 4 1, 3) := by decide +kernel
theorem dX12_foretell_114 : decode cX12_foretell 114 = .ok (.goto (-47), 3) := by decide +kernel
theorem dX12_foretell_117 : decode cX12_foretell 117 = .ok (.aload_n 0, 1) := by decide +kernel
theorem dX12_foretell_118 : decode cX12_foretell 118 = .ok (.getfield 111, 3) := by decide +kernel
theorem dX12_foretell_121 : decode cX12_foretell 121 = .ok (.iload_n 3, 1) := by decide +kernel
theorem dX12_foretell_122 : decode cX12_foretell 122 = .ok (.dup2, 1) := by decide +kernel
theorem dX12_foretell_123 : decode cX12_foretell 123 = .ok (.iaload, 1) := by decide +kernel
theorem dX12_foretell_124 : decode cX12_foretell 124 = .ok (.aload_n 0, 1) := by decide +kernel
theorem dX12_foretell_125 : decode cX12_foretell 125 = .ok (.iload_n 3, 1) := by decide +kernel
theorem dX12_foretell_126 : decode cX12_foretell 126 = .ok (.iload_n 2, 1) := by decide +kernel
theorem dX12_foretell_127 : decode cX12_foretell 127 = .ok (.invokevirtual 304, 3) := by decide +kernel
theorem dX12_foretell_130 : decode cX12_foretell 130 = .ok (.iadd, 1) := by decide +kernel
theorem dX12_foretell_131 : decode cX12_foretell 131 = .ok (.iastore, 1) := by decide +kernel
theorem dX12_foretell_132 : decode cX12_foretell 132 = .ok (.iload_n 2, 1) := by decide +kernel
theorem dX12_foretell_133 : decode cX12_foretell 133 = .ok (.iload_n 1, 1) := by decide +kernel
theorem dX12_foretell_134 : decode cX12_foretell 134 = .ok (.if_icmp .ne 15, 3) := by decide +kernel
theorem dX12_foretell_137 : decode cX12_foretell 137 = .ok (.aload_n 0, 1) := by decide +kernel
theorem dX12_foretell_138 : decode cX12_foretell 138 = .ok (.getfield 111, 3) := by decide +kernel
theorem dX12_foretell_141 : decode cX12_foretell 141 = .ok (.iload_n 3, 1) := by decide +kernel
theorem dX12_foretell_142 : decode cX12_foretell 142 = .ok (.iaload, 1) := by decide +kernel
theorem dX12_foretell_143 : decode cX12_foretell 143 = .ok (.aload_n 0, 1) := by decide +kernel
theorem dX12_foretell_144 : decode cX12_foretell 144 = .ok (.getfield 212, 3) := by decide +kernel
theorem dX12_foretell_147 : decode cX12_foretell 147 = .ok (.isub, 1) := by decide +kernel
theorem dX12_foretell_148 : decode cX12_foretell 148 = .ok (.ireturn, 1) := by decide +kernel
theorem dX12_foretell_149 : decode cX12_foretell 149 = .ok (.iinc 2 1, 3) := by decide +kernel
theorem dX12_foretell_152 : decode cX12_foretell 152 = .ok (.goto (-104), 3) := by decide +kernel
theorem dX12_foretell_155 : decode cX12_foretell 155 = .ok (.bipush (-9), 2) := by decide +kernel
theorem dX12_foretell_157 : decode cX12_foretell 157 = .ok (.ireturn, 1) := by decide +kernel
theorem dX12_layWaits_0 : decode cX12_layWaits 0 = .ok (.aload_n 0, 1) := by decide +kernel
theorem dX12_layWaits_1 : decode cX12_layWaits 1 = .ok (.iconst 0, 1) := by decide +kernel
theorem dX12_layWaits_2 : decode cX12_layWaits 2 = .ok (.putfield 316, 3) := by decide +kernel
theorem dX12_layWaits_5 : decode cX12_layWaits 5 = .ok (.iconst 0, 1) := by decide +kernel
theorem dX12_layWaits_6 : decode cX12_layWaits 6 = .ok (.istore_n 1, 1) := by decide +kernel
theorem dX12_layWaits_7 : decode cX12_layWaits 7 = .ok (.iload_n 1, 1) := by decide +kernel
theorem dX12_layWaits_8 : decode cX12_layWaits 8 = .ok (.aload_n 0, 1) := by decide +kernel
theorem dX12_layWaits_9 : decode cX12_layWaits 9 = .ok (.getfield 286, 3) := by decide +kernel
theorem dX12_layWaits_12 : decode cX12_layWaits 12 = .ok (.if_icmp .ge 38, 3) := by decide +kernel
theorem dX12_layWaits_15 : decode cX12_layWaits 15 = .ok (.aload_n 0, 1) := by decide +kernel
theorem dX12_layWaits_16 : decode cX12_layWaits 16 = .ok (.getfield 78, 3) := by decide +kernel
theorem dX12_layWaits_19 : decode cX12_layWaits 19 = .ok (.iload_n 1, 1) := by decide +kernel
theorem dX12_layWaits_20 : decode cX12_layWaits 20 = .ok (.iaload, 1) := by decide +kernel
theorem dX12_layWaits_21 : decode cX12_layWaits 21 = .ok (.ifCond .ne 23, 3) := by decide +kernel
theorem dX12_layWaits_24 : decode cX12_layWaits 24 = .ok (.aload_n 0, 1) := by decide +kernel
theorem dX12_layWaits_25 : decode cX12_layWaits 25 = .ok (.getfield 114, 3) := by decide +kernel
theorem dX12_layWaits_28 : decode cX12_layWaits 28 = .ok (.aload_n 0, 1) := by decide +kernel
theorem dX12_layWaits_29 : decode cX12_layWaits 29 = .ok (.getfield 316, 3) := by decide +kernel
theorem dX12_layWaits_32 : decode cX12_layWaits 32 = .ok (.iload_n 1, 1) := by decide +kernel
theorem dX12_layWaits_33 : decode cX12_layWaits 33 = .ok (.iastore, 1) := by decide +kernel
theorem dX12_layWaits_34 : decode cX12_layWaits 34 = .ok (.aload_n 0, 1) := by decide +kernel
theorem dX12_layWaits_35 : decode cX12_layWaits 35 = .ok (.dup, 1) := by decide +kernel
theorem dX12_layWaits_36 : decode cX12_layWaits 36 = .ok (.getfield 316, 3) := by decide +kernel
theorem dX12_layWaits_39 : decode cX12_layWaits 39 = .ok (.iconst 1, 1) := by decide +kernel
theorem dX12_layWaits_40 : decode cX12_layWaits 40 = .ok (.iadd, 1) := by decide +kernel
theorem dX12_layWaits_41 : decode cX12_layWaits 41 = .ok (.putfield 316, 3) := by decide +kernel
theorem dX12_layWaits_44 : decode cX12_layWaits 44 = .ok (.iinc 1 1, 3) := by decide +kernel
theorem dX12_layWaits_47 : decode cX12_layWaits 47 = .ok (.goto (-40), 3) := by decide +kernel
theorem dX12_layWaits_50 : decode cX12_layWaits 50 = .ok (.return_, 1) := by decide +kernel
theorem dX12_sumOf_0 : decode cX12_sumOf 0 = .ok (.lconst 0, 1) := by decide +kernel
theorem dX12_sumOf_1 : decode cX12_sumOf 1 = .ok (.lstore_n 1, 1) := by decide +kernel
theorem dX12_sumOf_2 : decode cX12_sumOf 2 = .ok (.iconst 0, 1) := by decide +kernel
theorem dX12_sumOf_3 : decode cX12_sumOf 3 = .ok (.istore_n 3, 1) := by decide +kernel
theorem dX12_sumOf_4 : decode cX12_sumOf 4 = .ok (.iload_n 3, 1) := by decide +kernel
theorem dX12_sumOf_5 : decode cX12_sumOf 5 = .ok (.iconst 3, 1) := by decide +kernel
theorem dX12_sumOf_6 : decode cX12_sumOf 6 = .ok (.if_icmp .ge 146, 3) := by decide +kernel
theorem dX12_sumOf_9 : decode cX12_sumOf 9 = .ok (.iconst 0, 1) := by decide +kernel
theorem dX12_sumOf_10 : decode cX12_sumOf 10 = .ok (.istore 4, 2) := by decide +kernel
theorem dX12_sumOf_12 : decode cX12_sumOf 12 = .ok (.iload 4, 2) := by decide +kernel
theorem dX12_sumOf_14 : decode cX12_sumOf 14 = .ok (.aload_n 0, 1) := by decide +kernel
theorem dX12_sumOf_15 : decode cX12_sumOf 15 = .ok (.getfield 316, 3) := by decide +kernel
theorem dX12_sumOf_18 : decode cX12_sumOf 18 = .ok (.if_icmp .ge 128, 3) := by decide +kernel
theorem dX12_sumOf_21 : decode cX12_sumOf 21 = .ok (.aload_n 0, 1) := by decide +kernel
theorem dX12_sumOf_22 : decode cX12_sumOf 22 = .ok (.getfield 117, 3) := by decide +kernel
theorem dX12_sumOf_25 : decode cX12_sumOf 25 = .ok (.iload 4, 2) := by decide +kernel
theorem dX12_sumOf_27 : decode cX12_sumOf 27 = .ok (.iaload, 1) := by decide +kernel
theorem dX12_sumOf_28 : decode cX12_sumOf 28 = .ok (.iload_n 3, 1) := by decide +kernel
theorem dX12_sumOf_29 : decode cX12_sumOf 29 = .ok (.if_icmp .ne 111, 3) := by decide +kernel
theorem dX12_sumOf_32 : decode cX12_sumOf 32 = .ok (.aload_n 0, 1) := by decide +kernel
theorem dX12_sumOf_33 : decode cX12_sumOf 33 = .ok (.iload_n 3, 1) := by decide +kernel
theorem dX12_sumOf_34 : decode cX12_sumOf 34 = .ok (.invokevirtual 313, 3) := by decide +kernel
theorem dX12_sumOf_37 : decode cX12_sumOf 37 = .ok (.aload_n 0, 1) := by decide +kernel
theorem dX12_sumOf_38 : decode cX12_sumOf 38 = .ok (.getfield 212, 3) := by decide +kernel
theorem dX12_sumOf_41 : decode cX12_sumOf 41 = .ok (.isub, 1) := by decide +kernel
theorem dX12_sumOf_42 : decode cX12_sumOf 42 = .ok (.i2l, 1) := by decide +kernel
theorem dX12_sumOf_43 : decode cX12_sumOf 43 = .ok (.lstore 5, 2) := by decide +kernel
theorem dX12_sumOf_45 : decode cX12_sumOf 45 = .ok (.aload_n 0, 1) := by decide +kernel
theorem dX12_sumOf_46 : decode cX12_sumOf 46 = .ok (.iload_n 3, 1) := by decide +kernel
theorem dX12_sumOf_47 : decode cX12_sumOf 47 = .ok (.aload_n 0, 1) := by decide +kernel
theorem dX12_sumOf_48 : decode cX12_sumOf 48 = .ok (.getfield 114, 3) := by decide +kernel
theorem dX12_sumOf_51 : decode cX12_sumOf 51 = .ok (.iload 4, 2) := by decide +kernel
theorem dX12_sumOf_53 : decode cX12_sumOf 53 = .ok (.iaload, 1) := by decide +kernel
theorem dX12_sumOf_54 : decode cX12_sumOf 54 = .ok (.invokevirtual 304, 3) := by decide +kernel
theorem dX12_sumOf_57 : decode cX12_sumOf 57 = .ok (.istore 7, 2) := by decide +kernel
theorem dX12_sumOf_59 : decode cX12_sumOf 59 = .ok (.iconst 0, 1) := by decide +kernel
theorem dX12_sumOf_60 : decode cX12_sumOf 60 = .ok (.istore 8, 2) := by decide +kernel
theorem dX12_sumOf_62 : decode cX12_sumOf 62 = .ok (.iload 8, 2) := by decide +kernel
theorem dX12_sumOf_64 : decode cX12_sumOf 64 = .ok (.aload_n 0, 1) := by decide +kernel
theorem dX12_sumOf_65 : decode cX12_sumOf 65 = .ok (.getfield 316, 3) := by decide +kernel
theorem dX12_sumOf_68 : decode cX12_sumOf 68 = .ok (.if_icmp .ge 67, 3) := by decide +kernel
theorem dX12_sumOf_71 : decode cX12_sumOf 71 = .ok (.aload_n 0, 1) := by decide +kernel
theorem dX12_sumOf_72 : decode cX12_sumOf 72 = .ok (.iload_n 3, 1) := by decide +kernel
theorem dX12_sumOf_73 : decode cX12_sumOf 73 = .ok (.aload_n 0, 1) := by decide +kernel
theorem dX12_sumOf_74 : decode cX12_sumOf 74 = .ok (.getfield 114, 3) := by decide +kernel
theorem dX12_sumOf_77 : decode cX12_sumOf 77 = .ok (.iload 8, 2) := by decide +kernel
theorem dX12_sumOf_79 : decode cX12_sumOf 79 = .ok (.iaload, 1) := by decide +kernel
theorem dX12_sumOf_80 : decode cX12_sumOf 80 = .ok (.invokevirtual 304, 3) := by decide +kernel
theorem dX12_sumOf_83 : decode cX12_sumOf 83 = .ok (.istore 9, 2) := by decide +kernel
theorem dX12_sumOf_85 : decode cX12_sumOf 85 = .ok (.lload 5, 2) := by decide +kernel
theorem dX12_sumOf_87 : decode cX12_sumOf 87 = .ok (.aload_n 0, 1) := by decide +kernel
theorem dX12_sumOf_88 : decode cX12_sumOf 88 = .ok (.getfield 117, 3) := by decide +kernel
theorem dX12_sumOf_91 : decode cX12_sumOf 91 = .ok (.iload 8, 2) := by decide +kernel
theorem dX12_sumOf_93 : decode cX12_sumOf 93 = .ok (.iaload, 1) := by decide +kernel
theorem dX12_sumOf_94 : decode cX12_sumOf 94 = .ok (.iload_n 3, 1) := by decide +kernel
theorem dX12_sumOf_95 : decode cX12_sumOf 95 = .ok (.if_icmp .ne 30, 3) := by decide +kernel
theorem dX12_sumOf_98 : decode cX12_sumOf 98 = .ok (.iload 9, 2) := by decide +kernel
theorem dX12_sumOf_100 : decode cX12_sumOf 100 = .ok (.iload 7, 2) := by decide +kernel
theorem dX12_sumOf_102 : decode cX12_sumOf 102 = .ok (.if_icmp .lt 17, 3) := by decide +kernel
theorem dX12_sumOf_105 : decode cX12_sumOf 105 = .ok (.iload 9, 2) := by decide +kernel
theorem dX12_sumOf_107 : decode cX12_sumOf 107 = .ok (.iload 7, 2) := by decide +kernel
theorem dX12_sumOf_109 : decode cX12_sumOf 109 = .ok (.if_icmp .ne 16, 3) := by decide +kernel
theorem dX12_sumOf_112 : decode cX12_sumOf 112 = .ok (.iload 8, 2) := by decide +kernel
theorem dX12_sumOf_114 : decode cX12_sumOf 114 = .ok (.iload 4, 2) := by decide +kernel
theorem dX12_sumOf_116 : decode cX12_sumOf 116 = .ok (.if_icmp .gt 9, 3) := by decide +kernel
theorem dX12_sumOf_119 : decode cX12_sumOf 119 = .ok (.iload 9, 2) := by decide +kernel
theorem dX12_sumOf_121 : decode cX12_sumOf 121 = .ok (.i2l, 1) := by decide +kernel
theorem dX12_sumOf_122 : decode cX12_sumOf 122 = .ok (.goto 4, 3) := by decide +kernel
theorem dX12_sumOf_125 : decode cX12_sumOf 125 = .ok (.lconst 0, 1) := by decide +kernel
theorem dX12_sumOf_126 : decode cX12_sumOf 126 = .ok (.ladd, 1) := by decide +kernel
theorem dX12_sumOf_127 : decode cX12_sumOf 127 = .ok (.lstore 5, 2) := by decide +kernel
theorem dX12_sumOf_129 : decode cX12_sumOf 129 = .ok (.iinc 8 1, 3) := by decide +kernel
theorem dX12_sumOf_132 : decode cX12_sumOf 132 = .ok (.goto (-70), 3) := by decide +kernel
theorem dX12_sumOf_135 : decode cX12_sumOf 135 = .ok (.lload_n 1, 1) := by decide +kernel
theorem dX12_sumOf_136 : decode cX12_sumOf 136 = .ok (.lload 5, 2) := by decide +kernel
theorem dX12_sumOf_138 : decode cX12_sumOf 138 = .ok (.ladd, 1) := by decide +kernel
theorem dX12_sumOf_139 : decode cX12_sumOf 139 = .ok (.lstore_n 1, 1) := by decide +kernel
theorem dX12_sumOf_140 : decode cX12_sumOf 140 = .ok (.iinc 4 1, 3) := by decide +kernel
theorem dX12_sumOf_143 : decode cX12_sumOf 143 = .ok (.goto (-131), 3) := by decide +kernel
theorem dX12_sumOf_146 : decode cX12_sumOf 146 = .ok (.iinc 3 1, 3) := by decide +kernel
theorem dX12_sumOf_149 : decode cX12_sumOf 149 = .ok (.goto (-145), 3) := by decide +kernel
theorem dX12_sumOf_152 : decode cX12_sumOf 152 = .ok (.lload_n 1, 1) := by decide +kernel
theorem dX12_sumOf_153 : decode cX12_sumOf 153 = .ok (.lreturn, 1) := by decide +kernel
theorem dX12_layRound_0 : decode cX12_layRound 0 = .ok (.iconst 1, 1) := by decide +kernel
theorem dX12_layRound_1 : decode cX12_layRound 1 = .ok (.istore_n 1, 1) := by decide +kernel
theorem dX12_layRound_2 : decode cX12_layRound 2 = .ok (.iconst 0, 1) := by decide +kernel
theorem dX12_layRound_3 : decode cX12_layRound 3 = .ok (.istore_n 2, 1) := by decide +kernel
theorem dX12_layRound_4 : decode cX12_layRound 4 = .ok (.iload_n 2, 1) := by decide +kernel
theorem dX12_layRound_5 : decode cX12_layRound 5 = .ok (.aload_n 0, 1) := by decide +kernel
theorem dX12_layRound_6 : decode cX12_layRound 6 = .ok (.getfield 316, 3) := by decide +kernel
theorem dX12_layRound_9 : decode cX12_layRound 9 = .ok (.if_icmp .ge 13, 3) := by decide +kernel
theorem dX12_layRound_12 : decode cX12_layRound 12 = .ok (.iload_n 1, 1) := by decide +kernel
theorem dX12_layRound_13 : decode cX12_layRound 13 = .ok (.iconst 3, 1) := by decide +kernel
theorem dX12_layRound_14 : decode cX12_layRound 14 = .ok (.imul, 1) := by decide +kernel
theorem dX12_layRound_15 : decode cX12_layRound 15 = .ok (.istore_n 1, 1) := by decide +kernel
theorem dX12_layRound_16 : decode cX12_layRound 16 = .ok (.iinc 2 1, 3) := by decide +kernel
theorem dX12_layRound_19 : decode cX12_layRound 19 = .ok (.goto (-15), 3) := by decide +kernel
theorem dX12_layRound_22 : decode cX12_layRound 22 = .ok (.ldc2_w 319, 3) := by decide +kernel
theorem dX12_layRound_25 : decode cX12_layRound 25 = .ok (.lstore_n 2, 1) := by decide +kernel
theorem dX12_layRound_26 : decode cX12_layRound 26 = .ok (.iconst 0, 1) := by decide +kernel
theorem dX12_layRound_27 : decode cX12_layRound 27 = .ok (.istore 4, 2) := by decide +kernel
theorem dX12_layRound_29 : decode cX12_layRound 29 = .ok (.iconst 0, 1) := by decide +kernel
theorem dX12_layRound_30 : decode cX12_layRound 30 = .ok (.istore 5, 2) := by decide +kernel
theorem dX12_layRound_32 : decode cX12_layRound 32 = .ok (.iload 5, 2) := by decide +kernel
theorem dX12_layRound_34 : decode cX12_layRound 34 = .ok (.iload_n 1, 1) := by decide +kernel
theorem dX12_layRound_35 : decode cX12_layRound 35 = .ok (.if_icmp .ge 41, 3) := by decide +kernel
theorem dX12_layRound_38 : decode cX12_layRound 38 = .ok (.aload_n 0, 1) := by decide +kernel
theorem dX12_layRound_39 : decode cX12_layRound 39 = .ok (.iload 5, 2) := by decide +kernel
theorem dX12_layRound_41 : decode cX12_layRound 41 = .ok (.invokevirtual 321, 3) := by decide +kernel
theorem dX12_layRound_44 : decode cX12_layRound 44 = .ok (.aload_n 0, 1) := by decide +kernel
theorem dX12_layRound_45 : decode cX12_layRound 45 = .ok (.invokevirtual 324, 3) := by decide +kernel
theorem dX12_layRound_48 : decode cX12_layRound 48 = .ok (.lstore 6, 2) := by decide +kernel
theorem dX12_layRound_50 : decode cX12_layRound 50 = .ok (.lload_n 2, 1) := by decide +kernel
theorem dX12_layRound_51 : decode cX12_layRound 51 = .ok (.lconst 0, 1) := by decide +kernel
theorem dX12_layRound_52 : decode cX12_layRound 52 = .ok (.lcmp, 1) := by decide +kernel
theorem dX12_layRound_53 : decode cX12_layRound 53 = .ok (.ifCond .lt 10, 3) := by decide +kernel
theorem dX12_layRound_56 : decode cX12_layRound 56 = .ok (.lload 6, 2) := by decide +kernel
theorem dX12_layRound_58 : decode cX12_layRound 58 = .ok (.lload_n 2, 1) := by decide +kernel
theorem dX12_layRound_59 : decode cX12_layRound 59 = .ok (.lcmp, 1) := by decide +kernel
theorem dX12_layRound_60 : decode cX12_layRound 60 = .ok (.ifCond .ge 10, 3) := by decide +kernel
theorem dX12_layRound_63 : decode cX12_layRound 63 = .ok (.lload 6, 2) := by decide +kernel
theorem dX12_layRound_65 : decode cX12_layRound 65 = .ok (.lstore_n 2, 1) := by decide +kernel
theorem dX12_layRound_66 : decode cX12_layRound 66 = .ok (.iload 5, 2) := by decide +kernel
theorem dX12_layRound_68 : decode cX12_layRound 68 = .ok (.istore 4, 2) := by decide +kernel
theorem dX12_layRound_70 : decode cX12_layRound 70 = .ok (.iinc 5 1, 3) := by decide +kernel
theorem dX12_layRound_73 : decode cX12_layRound 73 = .ok (.goto (-41), 3) := by decide +kernel
theorem dX12_layRound_76 : decode cX12_layRound 76 = .ok (.aload_n 0, 1) := by decide +kernel
theorem dX12_layRound_77 : decode cX12_layRound 77 = .ok (.iload 4, 2) := by decide +kernel
theorem dX12_layRound_79 : decode cX12_layRound 79 = .ok (.invokevirtual 321, 3) := by decide +kernel
theorem dX12_layRound_82 : decode cX12_layRound 82 = .ok (.lload_n 2, 1) := by decide +kernel
theorem dX12_layRound_83 : decode cX12_layRound 83 = .ok (.lreturn, 1) := by decide +kernel
theorem dX12_layWay_0 : decode cX12_layWay 0 = .ok (.iload_n 1, 1) := by decide +kernel
theorem dX12_layWay_1 : decode cX12_layWay 1 = .ok (.istore_n 2, 1) := by decide +kernel
theorem dX12_layWay_2 : decode cX12_layWay 2 = .ok (.aload_n 0, 1) := by decide +kernel
theorem dX12_layWay_3 : decode cX12_layWay 3 = .ok (.getfield 316, 3) := by decide +kernel
theorem dX12_layWay_6 : decode cX12_layWay 6 = .ok (.iconst 1, 1) := by decide +kernel
theorem dX12_layWay_7 : decode cX12_layWay 7 = .ok (.isub, 1) := by decide +kernel
theorem dX12_layWay_8 : decode cX12_layWay 8 = .ok (.istore_n 3, 1) := by decide +kernel
theorem dX12_layWay_9 : decode cX12_layWay 9 = .ok (.iload_n 3, 1) := by decide +kernel
theorem dX12_layWay_10 : decode cX12_layWay 10 = .ok (.ifCond .lt 22, 3) := by decide +kernel
theorem dX12_layWay_13 : decode cX12_layWay 13 = .ok (.aload_n 0, 1) := by decide +kernel
theorem dX12_layWay_14 : decode cX12_layWay 14 = .ok (.getfield 117, 3) := by decide +kernel
theorem dX12_layWay_17 : decode cX12_layWay 17 = .ok (.iload_n 3, 1) := by decide +kernel
theorem dX12_layWay_18 : decode cX12_layWay 18 = .ok (.iload_n 2, 1) := by decide +kernel
theorem dX12_layWay_19 : decode cX12_layWay 19 = .ok (.iconst 3, 1) := by decide +kernel
theorem dX12_layWay_20 : decode cX12_layWay 20 = .ok (.irem, 1) := by decide +kernel
theorem dX12_layWay_21 : decode cX12_layWay 21 = .ok (.iastore, 1) := by decide +kernel
theorem dX12_layWay_22 : decode cX12_layWay 22 = .ok (.iload_n 2, 1) := by decide +kernel
theorem dX12_layWay_23 : decode cX12_layWay 23 = .ok (.iconst 3, 1) := by decide +kernel
theorem dX12_layWay_24 : decode cX12_layWay 24 = .ok (.idiv, 1) := by decide +kernel
theorem dX12_layWay_25 : decode cX12_layWay 25 = .ok (.istore_n 2, 1) := by decide +kernel
theorem dX12_layWay_26 : decode cX12_layWay 26 = .ok (.iinc 3 (-1), 3) := by decide +kernel
theorem dX12_layWay_29 : decode cX12_layWay 29 = .ok (.goto (-20), 3) := by decide +kernel
theorem dX12_layWay_32 : decode cX12_layWay 32 = .ok (.return_, 1) := by decide +kernel
theorem dX12_round_0 : decode cX12_round 0 = .ok (.aload_n 0, 1) := by decide +kernel
theorem dX12_round_1 : decode cX12_round 1 = .ok (.invokevirtual 328, 3) := by decide +kernel
theorem dX12_round_4 : decode cX12_round 4 = .ok (.aload_n 0, 1) := by decide +kernel
theorem dX12_round_5 : decode cX12_round 5 = .ok (.getfield 316, 3) := by decide +kernel
theorem dX12_round_8 : decode cX12_round 8 = .ok (.bipush 6, 2) := by decide +kernel
theorem dX12_round_10 : decode cX12_round 10 = .ok (.if_icmp .le 8, 3) := by decide +kernel
theorem dX12_round_13 : decode cX12_round 13 = .ok (.bipush (-6), 2) := by decide +kernel
theorem dX12_round_15 : decode cX12_round 15 = .ok (.goto 8, 3) := by decide +kernel
theorem dX12_round_18 : decode cX12_round 18 = .ok (.aload_n 0, 1) := by decide +kernel
theorem dX12_round_19 : decode cX12_round 19 = .ok (.invokevirtual 331, 3) := by decide +kernel
theorem dX12_round_22 : decode cX12_round 22 = .ok (.l2i, 1) := by decide +kernel
theorem dX12_round_23 : decode cX12_round 23 = .ok (.ireturn, 1) := by decide +kernel
theorem dX12_roundOf_0 : decode cX12_roundOf 0 = .ok (.aload_n 0, 1) := by decide +kernel
theorem dX12_roundOf_1 : decode cX12_roundOf 1 = .ok (.iload_n 1, 1) := by decide +kernel
theorem dX12_roundOf_2 : decode cX12_roundOf 2 = .ok (.invokevirtual 295, 3) := by decide +kernel
theorem dX12_roundOf_5 : decode cX12_roundOf 5 = .ok (.ifCond .ne 5, 3) := by decide +kernel
theorem dX12_roundOf_8 : decode cX12_roundOf 8 = .ok (.iconst (-1), 1) := by decide +kernel
theorem dX12_roundOf_9 : decode cX12_roundOf 9 = .ok (.ireturn, 1) := by decide +kernel
theorem dX12_roundOf_10 : decode cX12_roundOf 10 = .ok (.aload_n 0, 1) := by decide +kernel
theorem dX12_roundOf_11 : decode cX12_roundOf 11 = .ok (.invokevirtual 328, 3) := by decide +kernel
theorem dX12_roundOf_14 : decode cX12_roundOf 14 = .ok (.aload_n 0, 1) := by decide +kernel
theorem dX12_roundOf_15 : decode cX12_roundOf 15 = .ok (.getfield 316, 3) := by decide +kernel
theorem dX12_roundOf_18 : decode cX12_roundOf 18 = .ok (.bipush 6, 2) := by decide +kernel
theorem dX12_roundOf_20 : decode cX12_roundOf 20 = .ok (.if_icmp .le 6, 3) := by decide +kernel
theorem dX12_roundOf_23 : decode cX12_roundOf 23 = .ok (.bipush (-6), 2) := by decide +kernel
theorem dX12_roundOf_25 : decode cX12_roundOf 25 = .ok (.ireturn, 1) := by decide +kernel
theorem dX12_roundOf_26 : decode cX12_roundOf 26 = .ok (.aload_n 0, 1) := by decide +kernel
theorem dX12_roundOf_27 : decode cX12_roundOf 27 = .ok (.invokevirtual 331, 3) := by decide +kernel
theorem dX12_roundOf_30 : decode cX12_roundOf 30 = .ok (.pop2, 1) := by decide +kernel
theorem dX12_roundOf_31 : decode cX12_roundOf 31 = .ok (.iconst 0, 1) := by decide +kernel
theorem dX12_roundOf_32 : decode cX12_roundOf 32 = .ok (.istore_n 2, 1) := by decide +kernel
theorem dX12_roundOf_33 : decode cX12_roundOf 33 = .ok (.iload_n 2, 1) := by decide +kernel
theorem dX12_roundOf_34 : decode cX12_roundOf 34 = .ok (.aload_n 0, 1) := by decide +kernel
theorem dX12_roundOf_35 : decode cX12_roundOf 35 = .ok (.getfield 316, 3) := by decide +kernel
theorem dX12_roundOf_38 : decode cX12_roundOf 38 = .ok (.if_icmp .ge 26, 3) := by decide +kernel
theorem dX12_roundOf_41 : decode cX12_roundOf 41 = .ok (.aload_n 0, 1) := by decide +kernel
theorem dX12_roundOf_42 : decode cX12_roundOf 42 = .ok (.getfield 114, 3) := by decide +kernel
theorem dX12_roundOf_45 : decode cX12_roundOf 45 = .ok (.iload_n 2, 1) := by decide +kernel
theorem dX12_roundOf_46 : decode cX12_roundOf 46 = .ok (.iaload, 1) := by decide +kernel
theorem dX12_roundOf_47 : decode cX12_roundOf 47 = .ok (.iload_n 1, 1) := by decide +kernel
theorem dX12_roundOf_48 : decode cX12_roundOf 48 = .ok (.if_icmp .ne 10, 3) := by decide +kernel
theorem dX12_roundOf_51 : decode cX12_roundOf 51 = .ok (.aload_n 0, 1) := by decide +kernel
theorem dX12_roundOf_52 : decode cX12_roundOf 52 = .ok (.getfield 117, 3) := by decide +kernel
theorem dX12_roundOf_55 : decode cX12_roundOf 55 = .ok (.iload_n 2, 1) := by decide +kernel
theorem dX12_roundOf_56 : decode cX12_roundOf 56 = .ok (.iaload, 1) := by decide +kernel
theorem dX12_roundOf_57 : decode cX12_roundOf 57 = .ok (.ireturn, 1) := by decide +kernel
theorem dX12_roundOf_58 : decode cX12_roundOf 58 = .ok (.iinc 2 1, 3) := by decide +kernel
theorem dX12_roundOf_61 : decode cX12_roundOf 61 = .ok (.goto (-28), 3) := by decide +kernel
theorem dX12_roundOf_64 : decode cX12_roundOf 64 = .ok (.bipush (-9), 2) := by decide +kernel
theorem dX12_roundOf_66 : decode cX12_roundOf 66 = .ok (.ireturn, 1) := by decide +kernel
theorem dX12_judge_0 : decode cX12_judge 0 = .ok (.iload_n 1, 1) := by decide +kernel
theorem dX12_judge_1 : decode cX12_judge 1 = .ok (.invokestatic 178, 3) := by decide +kernel
theorem dX12_judge_4 : decode cX12_judge 4 = .ok (.ifCond .ne 5, 3) := by decide +kernel
theorem dX12_judge_7 : decode cX12_judge 7 = .ok (.iconst (-1), 1) := by decide +kernel
theorem dX12_judge_8 : decode cX12_judge 8 = .ok (.ireturn, 1) := by decide +kernel
theorem dX12_judge_9 : decode cX12_judge 9 = .ok (.aload_n 0, 1) := by decide +kernel
theorem dX12_judge_10 : decode cX12_judge 10 = .ok (.getfield 13, 3) := by decide +kernel
theorem dX12_judge_13 : decode cX12_judge 13 = .ok (.iload_n 1, 1) := by decide +kernel
theorem dX12_judge_14 : decode cX12_judge 14 = .ok (.iaload, 1) := by decide +kernel
theorem dX12_judge_15 : decode cX12_judge 15 = .ok (.ifCond .ge 9, 3) := by decide +kernel
theorem dX12_judge_18 : decode cX12_judge 18 = .ok (.aload_n 0, 1) := by decide +kernel
theorem dX12_judge_19 : decode cX12_judge 19 = .ok (.iconst 1, 1) := by decide +kernel
theorem dX12_judge_20 : decode cX12_judge 20 = .ok (.invokevirtual 182, 3) := by decide +kernel
theorem dX12_judge_23 : decode cX12_judge 23 = .ok (.ireturn, 1) := by decide +kernel
theorem dX12_judge_24 : decode cX12_judge 24 = .ok (.aload_n 0, 1) := by decide +kernel
theorem dX12_judge_25 : decode cX12_judge 25 = .ok (.invokevirtual 328, 3) := by decide +kernel
theorem dX12_judge_28 : decode cX12_judge 28 = .ok (.aload_n 0, 1) := by decide +kernel
theorem dX12_judge_29 : decode cX12_judge 29 = .ok (.getfield 13, 3) := by decide +kernel
theorem dX12_judge_32 : decode cX12_judge 32 = .ok (.iload_n 1, 1) := by decide +kernel
theorem dX12_judge_33 : decode cX12_judge 33 = .ok (.iaload, 1) := by decide +kernel
theorem dX12_judge_34 : decode cX12_judge 34 = .ok (.aload_n 0, 1) := by decide +kernel
theorem dX12_judge_35 : decode cX12_judge 35 = .ok (.getfield 316, 3) := by decide +kernel
theorem dX12_judge_38 : decode cX12_judge 38 = .ok (.if_icmp .eq 9, 3) := by decide +kernel
theorem dX12_judge_41 : decode cX12_judge 41 = .ok (.aload_n 0, 1) := by decide +kernel
theorem dX12_judge_42 : decode cX12_judge 42 = .ok (.iconst 5, 1) := by decide +kernel
theorem dX12_judge_43 : decode cX12_judge 43 = .ok (.invokevirtual 182, 3) := by decide +kernel
theorem dX12_judge_46 : decode cX12_judge 46 = .ok (.ireturn, 1) := by decide +kernel
theorem dX12_judge_47 : decode cX12_judge 47 = .ok (.iconst 1, 1) := by decide +kernel
theorem dX12_judge_48 : decode cX12_judge 48 = .ok (.istore_n 2, 1) := by decide +kernel
theorem dX12_judge_49 : decode cX12_judge 49 = .ok (.iconst 0, 1) := by decide +kernel
theorem dX12_judge_50 : decode cX12_judge 50 = .ok (.istore_n 3, 1) := by decide +kernel
theorem dX12_judge_51 : decode cX12_judge 51 = .ok (.iload_n 3, 1) := by decide +kernel
theorem dX12_judge_52 : decode cX12_judge 52 = .ok (.aload_n 0, 1) := by decide +kernel
theorem dX12_judge_53 : decode cX12_judge 53 = .ok (.getfield 316, 3) := by decide +kernel
theorem dX12_judge_56 : decode cX12_judge 56 = .ok (.if_icmp .ge 43, 3) := by decide +kernel
theorem dX12_judge_59 : decode cX12_judge 59 = .ok (.aload_n 0, 1) := by decide +kernel
theorem dX12_judge_60 : decode cX12_judge 60 = .ok (.getfield 117, 3) := by decide +kernel
theorem dX12_judge_63 : decode cX12_judge 63 = .ok (.iload_n 3, 1) := by decide +kernel
theorem dX12_judge_64 : decode cX12_judge 64 = .ok (.aload_n 0, 1) := by decide +kernel
theorem dX12_judge_65 : decode cX12_judge 65 = .ok (.iload_n 1, 1) := by decide +kernel
theorem dX12_judge_66 : decode cX12_judge 66 = .ok (.iload_n 3, 1) := by decide +kernel
theorem dX12_judge_67 : decode cX12_judge 67 = .ok (.invokevirtual 186, 3) := by decide +kernel
theorem dX12_judge_70 : decode cX12_judge 70 = .ok (.iastore, 1) := by decide +kernel
theorem dX12_judge_71 : decode cX12_judge 71 = .ok (.iload_n 2, 1) := by decide +kernel
theorem dX12_judge_72 : decode cX12_judge 72 = .ok (.ifCond .eq 19, 3) := by decide +kernel
theorem dX12_judge_75 : decode cX12_judge 75 = .ok (.aload_n 0, 1) := by decide +kernel
theorem dX12_judge_76 : decode cX12_judge 76 = .ok (.getfield 117, 3) := by decide +kernel
theorem dX12_judge_79 : decode cX12_judge 79 = .ok (.iload_n 3, 1) := by decide +kernel
theorem dX12_judge_80 : decode cX12_judge 80 = .ok (.iaload, 1) := by decide +kernel
theorem dX12_judge_81 : decode cX12_judge 81 = .ok (.invokestatic 301, 3) := by decide +kernel
theorem dX12_judge_84 : decode cX12_judge 84 = .ok (.ifCond .eq 7, 3) := by decide +kernel
theorem dX12_judge_87 : decode cX12_judge 87 = .ok (.iconst 1, 1) := by decide +kernel
theorem dX12_judge_88 : decode cX12_judge 88 = .ok (.goto 4, 3) := by decide +kernel
theorem dX12_judge_91 : decode cX12_judge 91 = .ok (.iconst 0, 1) := by decide +kernel
theorem dX12_judge_92 : decode cX12_judge 92 = .ok (.istore_n 2, 1) := by decide +kernel
theorem dX12_judge_93 : decode cX12_judge 93 = .ok (.iinc 3 1, 3) := by decide +kernel
theorem dX12_judge_96 : decode cX12_judge 96 = .ok (.goto (-45), 3) := by decide +kernel
theorem dX12_judge_99 : decode cX12_judge 99 = .ok (.iload_n 2, 1) := by decide +kernel
theorem dX12_judge_100 : decode cX12_judge 100 = .ok (.ifCond .eq 11, 3) := by decide +kernel
theorem dX12_judge_103 : decode cX12_judge 103 = .ok (.aload_n 0, 1) := by decide +kernel
theorem dX12_judge_104 : decode cX12_judge 104 = .ok (.invokevirtual 324, 3) := by decide +kernel
theorem dX12_judge_107 : decode cX12_judge 107 = .ok (.l2i, 1) := by decide +kernel
theorem dX12_judge_108 : decode cX12_judge 108 = .ok (.goto 8, 3) := by decide +kernel
theorem dX12_judge_111 : decode cX12_judge 111 = .ok (.aload_n 0, 1) := by decide +kernel
theorem dX12_judge_112 : decode cX12_judge 112 = .ok (.iconst 3, 1) := by decide +kernel
theorem dX12_judge_113 : decode cX12_judge 113 = .ok (.invokevirtual 182, 3) := by decide +kernel
theorem dX12_judge_116 : decode cX12_judge 116 = .ok (.ireturn, 1) := by decide +kernel
theorem dX12_first_0 : decode cX12_first 0 = .ok (.aload_n 0, 1) := by decide +kernel
theorem dX12_first_1 : decode cX12_first 1 = .ok (.iload_n 1, 1) := by decide +kernel
theorem dX12_first_2 : decode cX12_first 2 = .ok (.invokevirtual 236, 3) := by decide +kernel
theorem dX12_first_5 : decode cX12_first 5 = .ok (.ifCond .ne 5, 3) := by decide +kernel
theorem dX12_first_8 : decode cX12_first 8 = .ok (.iconst (-1), 1) := by decide +kernel
theorem dX12_first_9 : decode cX12_first 9 = .ok (.ireturn, 1) := by decide +kernel
theorem dX12_first_10 : decode cX12_first 10 = .ok (.aload_n 0, 1) := by decide +kernel
theorem dX12_first_11 : decode cX12_first 11 = .ok (.iconst 2, 1) := by decide +kernel
theorem dX12_first_12 : decode cX12_first 12 = .ok (.invokevirtual 254, 3) := by decide +kernel
theorem dX12_first_15 : decode cX12_first 15 = .ok (.istore_n 2, 1) := by decide +kernel
theorem dX12_first_16 : decode cX12_first 16 = .ok (.bipush (-9), 2) := by decide +kernel
theorem dX12_first_18 : decode cX12_first 18 = .ok (.istore_n 3, 1) := by decide +kernel
theorem dX12_first_19 : decode cX12_first 19 = .ok (.iconst 0, 1) := by decide +kernel
theorem dX12_first_20 : decode cX12_first 20 = .ok (.istore 4, 2) := by decide +kernel
theorem dX12_first_22 : decode cX12_first 22 = .ok (.iconst 0, 1) := by decide +kernel
theorem dX12_first_23 : decode cX12_first 23 = .ok (.istore 5, 2) := by decide +kernel
theorem dX12_first_25 : decode cX12_first 25 = .ok (.iload 5, 2) := by decide +kernel
theorem dX12_first_27 : decode cX12_first 27 = .ok (.aload_n 0, 1) := by decide +kernel
theorem dX12_first_28 : decode cX12_first 28 = .ok (.getfield 286, 3) := by decide +kernel
theorem dX12_first_31 : decode cX12_first 31 = .ok (.if_icmp .ge 86, 3) := by decide +kernel
theorem dX12_first_34 : decode cX12_first 34 = .ok (.aload_n 0, 1) := by decide +kernel
theorem dX12_first_35 : decode cX12_first 35 = .ok (.getfield 78, 3) := by decide +kernel
theorem dX12_first_38 : decode cX12_first 38 = .ok (.iload 5, 2) := by decide +kernel
theorem dX12_first_40 : decode cX12_first 40 = .ok (.iaload, 1) := by decide +kernel
theorem dX12_first_41 : decode cX12_first 41 = .ok (.ifCond .ne 70, 3) := by decide +kernel
theorem dX12_first_44 : decode cX12_first 44 = .ok (.aload_n 0, 1) := by decide +kernel
theorem dX12_first_45 : decode cX12_first 45 = .ok (.getfield 84, 3) := by decide +kernel
theorem dX12_first_48 : decode cX12_first 48 = .ok (.iload 5, 2) := by decide +kernel
theorem dX12_first_50 : decode cX12_first 50 = .ok (.iaload, 1) := by decide +kernel
theorem dX12_first_51 : decode cX12_first 51 = .ok (.iload_n 1, 1) := by decide +kernel
theorem dX12_first_52 : decode cX12_first 52 = .ok (.if_icmp .ne 59, 3) := by decide +kernel
theorem dX12_first_55 : decode cX12_first 55 = .ok (.iload_n 2, 1) := by decide +kernel
theorem dX12_first_56 : decode cX12_first 56 = .ok (.ifCond .ne 7, 3) := by decide +kernel
theorem dX12_first_59 : decode cX12_first 59 = .ok (.iconst 0, 1) := by decide +kernel
theorem dX12_first_60 : decode cX12_first 60 = .ok (.goto 29, 3) := by decide +kernel
theorem dX12_first_63 : decode cX12_first 63 = .ok (.iload_n 2, 1) := by decide +kernel
theorem dX12_first_64 : decode cX12_first 64 = .ok (.iconst 1, 1) := by decide +kernel
theorem dX12_first_65 : decode cX12_first 65 = .ok (.if_icmp .ne 17, 3) := by decide +kernel
theorem dX12_first_68 : decode cX12_first 68 = .ok (.aload_n 0, 1) := by decide +kernel
theorem dX12_first_69 : decode cX12_first 69 = .ok (.aload_n 0, 1) := by decide +kernel
theorem dX12_first_70 : decode cX12_first 70 = .ok (.getfield 81, 3) := by decide +kernel
theorem dX12_first_73 : decode cX12_first 73 = .ok (.iload 5, 2) := by decide +kernel
theorem dX12_first_75 : decode cX12_first 75 = .ok (.iaload, 1) := by decide +kernel
theorem dX12_first_76 : decode cX12_first 76 = .ok (.invokevirtual 251, 3) := by decide +kernel
theorem dX12_first_79 : decode cX12_first 79 = .ok (.goto 10, 3) := by decide +kernel
theorem dX12_first_82 : decode cX12_first 82 = .ok (.aload_n 0, 1) := by decide +kernel
theorem dX12_first_83 : decode cX12_first 83 = .ok (.getfield 81, 3) := by decide +kernel
theorem dX12_first_86 : decode cX12_first 86 = .ok (.iload 5, 2) := by decide +kernel
theorem dX12_first_88 : decode cX12_first 88 = .ok (.iaload, 1) := by decide +kernel
theorem dX12_first_89 : decode cX12_first 89 = .ok (.istore 6, 2) := by decide +kernel
theorem dX12_first_91 : decode cX12_first 91 = .ok (.iload_n 3, 1) := by decide +kernel
theorem dX12_first_92 : decode cX12_first 92 = .ok (.bipush (-9), 2) := by decide +kernel
theorem dX12_first_94 : decode cX12_first 94 = .ok (.if_icmp .eq 10, 3) := by decide +kernel
theorem dX12_first_97 : decode cX12_first 97 = .ok (.iload 6, 2) := by decide +kernel
theorem dX12_first_99 : decode cX12_first 99 = .ok (.iload 4, 2) := by decide +kernel
theorem dX12_first_101 : decode cX12_first 101 = .ok (.if_icmp .ge 10, 3) := by decide +kernel
theorem dX12_first_104 : decode cX12_first 104 = .ok (.iload 5, 2) := by decide +kernel
theorem dX12_first_106 : decode cX12_first 106 = .ok (.istore_n 3, 1) := by decide +kernel
theorem dX12_first_107 : decode cX12_first 107 = .ok (.iload 6, 2) := by decide +kernel
theorem dX12_first_109 : decode cX12_first 109 = .ok (.istore 4, 2) := by decide +kernel
theorem dX12_first_111 : decode cX12_first 111 = .ok (.iinc 5 1, 3) := by decide +kernel
theorem dX12_first_114 : decode cX12_first 114 = .ok (.goto (-89), 3) := by decide +kernel
theorem dX12_first_117 : decode cX12_first 117 = .ok (.iload_n 3, 1) := by decide +kernel
theorem dX12_first_118 : decode cX12_first 118 = .ok (.ireturn, 1) := by decide +kernel
theorem dX12_beside_0 : decode cX12_beside 0 = .ok (.iload_n 1, 1) := by decide +kernel
theorem dX12_beside_1 : decode cX12_beside 1 = .ok (.iconst 0, 1) := by decide +kernel
theorem dX12_beside_2 : decode cX12_beside 2 = .ok (.bipush 99, 2) := by decide +kernel
theorem dX12_beside_4 : decode cX12_beside 4 = .ok (.invokestatic 168, 3) := by decide +kernel
theorem dX12_beside_7 : decode cX12_beside 7 = .ok (.ifCond .ne 5, 3) := by decide +kernel
theorem dX12_beside_10 : decode cX12_beside 10 = .ok (.iconst (-1), 1) := by decide +kernel
theorem dX12_beside_11 : decode cX12_beside 11 = .ok (.ireturn, 1) := by decide +kernel
theorem dX12_beside_12 : decode cX12_beside 12 = .ok (.iconst 0, 1) := by decide +kernel
theorem dX12_beside_13 : decode cX12_beside 13 = .ok (.istore_n 2, 1) := by decide +kernel
theorem dX12_beside_14 : decode cX12_beside 14 = .ok (.iconst 0, 1) := by decide +kernel
theorem dX12_beside_15 : decode cX12_beside 15 = .ok (.istore_n 3, 1) := by decide +kernel
theorem dX12_beside_16 : decode cX12_beside 16 = .ok (.iload_n 3, 1) := by decide +kernel
theorem dX12_beside_17 : decode cX12_beside 17 = .ok (.aload_n 0, 1) := by decide +kernel
theorem dX12_beside_18 : decode cX12_beside 18 = .ok (.getfield 286, 3) := by decide +kernel
theorem dX12_beside_21 : decode cX12_beside 21 = .ok (.if_icmp .ge 27, 3) := by decide +kernel
theorem dX12_beside_24 : decode cX12_beside 24 = .ok (.iload_n 2, 1) := by decide +kernel
theorem dX12_beside_25 : decode cX12_beside 25 = .ok (.aload_n 0, 1) := by decide +kernel
theorem dX12_beside_26 : decode cX12_beside 26 = .ok (.getfield 93, 3) := by decide +kernel
theorem dX12_beside_29 : decode cX12_beside 29 = .ok (.iload_n 3, 1) := by decide +kernel
theorem dX12_beside_30 : decode cX12_beside 30 = .ok (.iaload, 1) := by decide +kernel
theorem dX12_beside_31 : decode cX12_beside 31 = .ok (.iload_n 1, 1) := by decide +kernel
theorem dX12_beside_32 : decode cX12_beside 32 = .ok (.if_icmp .lt 7, 3) := by decide +kernel
theorem dX12_beside_35 : decode cX12_beside 35 = .ok (.iconst 1, 1) := by decide +kernel
theorem dX12_beside_36 : decode cX12_beside 36 = .ok (.goto 4, 3) := by decide +kernel
theorem dX12_beside_39 : decode cX12_beside 39 = .ok (.iconst 0, 1) := by decide +kernel
theorem dX12_beside_40 : decode cX12_beside 40 = .ok (.iadd, 1) := by decide +kernel
theorem dX12_beside_41 : decode cX12_beside 41 = .ok (.istore_n 2, 1) := by decide +kernel
theorem dX12_beside_42 : decode cX12_beside 42 = .ok (.iinc 3 1, 3) := by decide +kernel
theorem dX12_beside_45 : decode cX12_beside 45 = .ok (.goto (-29), 3) := by decide +kernel
theorem dX12_beside_48 : decode cX12_beside 48 = .ok (.iload_n 2, 1) := by decide +kernel
theorem dX12_beside_49 : decode cX12_beside 49 = .ok (.ireturn, 1) := by decide +kernel
theorem dX12_bits_0 : decode cX12_bits 0 = .ok (.iconst 0, 1) := by decide +kernel
theorem dX12_bits_1 : decode cX12_bits 1 = .ok (.istore_n 1, 1) := by decide +kernel
theorem dX12_bits_2 : decode cX12_bits 2 = .ok (.iconst 0, 1) := by decide +kernel
theorem dX12_bits_3 : decode cX12_bits 3 = .ok (.istore_n 2, 1) := by decide +kernel
theorem dX12_bits_4 : decode cX12_bits 4 = .ok (.iload_n 2, 1) := by decide +kernel
theorem dX12_bits_5 : decode cX12_bits 5 = .ok (.bipush 30, 2) := by decide +kernel
theorem dX12_bits_7 : decode cX12_bits 7 = .ok (.if_icmp .ge 17, 3) := by decide +kernel
theorem dX12_bits_10 : decode cX12_bits 10 = .ok (.iload_n 1, 1) := by decide +kernel
theorem dX12_bits_11 : decode cX12_bits 11 = .ok (.iload_n 0, 1) := by decide +kernel
theorem dX12_bits_12 : decode cX12_bits 12 = .ok (.iload_n 2, 1) := by decide +kernel
theorem dX12_bits_13 : decode cX12_bits 13 = .ok (.ishr, 1) := by decide +kernel
theorem dX12_bits_14 : decode cX12_bits 14 = .ok (.iconst 1, 1) := by decide +kernel
theorem dX12_bits_15 : decode cX12_bits 15 = .ok (.iand, 1) := by decide +kernel
theorem dX12_bits_16 : decode cX12_bits 16 = .ok (.iadd, 1) := by decide +kernel
theorem dX12_bits_17 : decode cX12_bits 17 = .ok (.istore_n 1, 1) := by decide +kernel
theorem dX12_bits_18 : decode cX12_bits 18 = .ok (.iinc 2 1, 3) := by decide +kernel
theorem dX12_bits_21 : decode cX12_bits 21 = .ok (.goto (-17), 3) := by decide +kernel
theorem dX12_bits_24 : decode cX12_bits 24 = .ok (.iload_n 1, 1) := by decide +kernel
theorem dX12_bits_25 : decode cX12_bits 25 = .ok (.ireturn, 1) := by decide +kernel
theorem dX12_crowd_0 : decode cX12_crowd 0 = .ok (.iload_n 1, 1) := by decide +kernel
theorem dX12_crowd_1 : decode cX12_crowd 1 = .ok (.invokestatic 266, 3) := by decide +kernel
theorem dX12_crowd_4 : decode cX12_crowd 4 = .ok (.ifCond .ne 5, 3) := by decide +kernel
theorem dX12_crowd_7 : decode cX12_crowd 7 = .ok (.iconst (-1), 1) := by decide +kernel
theorem dX12_crowd_8 : decode cX12_crowd 8 = .ok (.ireturn, 1) := by decide +kernel
theorem dX12_crowd_9 : decode cX12_crowd 9 = .ok (.iconst 0, 1) := by decide +kernel
theorem dX12_crowd_10 : decode cX12_crowd 10 = .ok (.istore_n 2, 1) := by decide +kernel
theorem dX12_crowd_11 : decode cX12_crowd 11 = .ok (.iconst 0, 1) := by decide +kernel
theorem dX12_crowd_12 : decode cX12_crowd 12 = .ok (.istore_n 3, 1) := by decide +kernel
theorem dX12_crowd_13 : decode cX12_crowd 13 = .ok (.iload_n 3, 1) := by decide +kernel
theorem dX12_crowd_14 : decode cX12_crowd 14 = .ok (.aload_n 0, 1) := by decide +kernel
theorem dX12_crowd_15 : decode cX12_crowd 15 = .ok (.getfield 286, 3) := by decide +kernel
theorem dX12_crowd_18 : decode cX12_crowd 18 = .ok (.if_icmp .ge 38, 3) := by decide +kernel
theorem dX12_crowd_21 : decode cX12_crowd 21 = .ok (.iload_n 2, 1) := by decide +kernel
theorem dX12_crowd_22 : decode cX12_crowd 22 = .ok (.aload_n 0, 1) := by decide +kernel
theorem dX12_crowd_23 : decode cX12_crowd 23 = .ok (.getfield 87, 3) := by decide +kernel
theorem dX12_crowd_26 : decode cX12_crowd 26 = .ok (.iload_n 3, 1) := by decide +kernel
theorem dX12_crowd_27 : decode cX12_crowd 27 = .ok (.iaload, 1) := by decide +kernel
theorem dX12_crowd_28 : decode cX12_crowd 28 = .ok (.sipush 1440, 3) := by decide +kernel
theorem dX12_crowd_31 : decode cX12_crowd 31 = .ok (.idiv, 1) := by decide +kernel
theorem dX12_crowd_32 : decode cX12_crowd 32 = .ok (.iload_n 1, 1) := by decide +kernel
theorem dX12_crowd_33 : decode cX12_crowd 33 = .ok (.if_icmp .ne 14, 3) := by decide +kernel
theorem dX12_crowd_36 : decode cX12_crowd 36 = .ok (.iconst 1, 1) := by decide +kernel
theorem dX12_crowd_37 : decode cX12_crowd 37 = .ok (.aload_n 0, 1) := by decide +kernel
theorem dX12_crowd_38 : decode cX12_crowd 38 = .ok (.getfield 81, 3) := by decide +kernel
theorem dX12_crowd_41 : decode cX12_crowd 41 = .ok (.iload_n 3, 1) := by decide +kernel
theorem dX12_crowd_42 : decode cX12_crowd 42 = .ok (.iaload, 1) := by decide +kernel
theorem dX12_crowd_43 : decode cX12_crowd 43 = .ok (.ishl, 1) := by decide +kernel
theorem dX12_crowd_44 : decode cX12_crowd 44 = .ok (.goto 4, 3) := by decide +kernel
theorem dX12_crowd_47 : decode cX12_crowd 47 = .ok (.iconst 0, 1) := by decide +kernel
theorem dX12_crowd_48 : decode cX12_crowd 48 = .ok (.ior, 1) := by decide +kernel
theorem dX12_crowd_49 : decode cX12_crowd 49 = .ok (.istore_n 2, 1) := by decide +kernel
theorem dX12_crowd_50 : decode cX12_crowd 50 = .ok (.iinc 3 1, 3) := by decide +kernel
theorem dX12_crowd_53 : decode cX12_crowd 53 = .ok (.goto (-40), 3) := by decide +kernel
theorem dX12_crowd_56 : decode cX12_crowd 56 = .ok (.iload_n 2, 1) := by decide +kernel
theorem dX12_crowd_57 : decode cX12_crowd 57 = .ok (.invokestatic 334, 3) := by decide +kernel
theorem dX12_crowd_60 : decode cX12_crowd 60 = .ok (.ireturn, 1) := by decide +kernel
theorem dX12_line_0 : decode cX12_line 0 = .ok (.iload_n 1, 1) := by decide +kernel
theorem dX12_line_1 : decode cX12_line 1 = .ok (.iconst 0, 1) := by decide +kernel
theorem dX12_line_2 : decode cX12_line 2 = .ok (.iconst 2, 1) := by decide +kernel
theorem dX12_line_3 : decode cX12_line 3 = .ok (.invokestatic 168, 3) := by decide +kernel
theorem dX12_line_6 : decode cX12_line 6 = .ok (.ifCond .eq 43, 3) := by decide +kernel
theorem dX12_line_9 : decode cX12_line 9 = .ok (.iload_n 2, 1) := by decide +kernel
theorem dX12_line_10 : decode cX12_line 10 = .ok (.iconst 0, 1) := by decide +kernel
theorem dX12_line_11 : decode cX12_line 11 = .ok (.sipush 9999, 3) := by decide +kernel
theorem dX12_line_14 : decode cX12_line 14 = .ok (.invokestatic 168, 3) := by decide +kernel
theorem dX12_line_17 : decode cX12_line 17 = .ok (.ifCond .eq 32, 3) := by decide +kernel
theorem dX12_line_20 : decode cX12_line 20 = .ok (.iload_n 3, 1) := by decide +kernel
theorem dX12_line_21 : decode cX12_line 21 = .ok (.iload_n 2, 1) := by decide +kernel
theorem dX12_line_22 : decode cX12_line 22 = .ok (.sipush 9999, 3) := by decide +kernel
theorem dX12_line_25 : decode cX12_line 25 = .ok (.invokestatic 168, 3) := by decide +kernel
theorem dX12_line_28 : decode cX12_line 28 = .ok (.ifCond .eq 21, 3) := by decide +kernel
theorem dX12_line_31 : decode cX12_line 31 = .ok (.iload 4, 2) := by decide +kernel
theorem dX12_line_33 : decode cX12_line 33 = .ok (.sipush (-9999), 3) := by decide +kernel
theorem dX12_line_36 : decode cX12_line 36 = .ok (.sipush 9999, 3) := by decide +kernel
theorem dX12_line_39 : decode cX12_line 39 = .ok (.invokestatic 168, 3) := by decide +kernel
theorem dX12_line_42 : decode cX12_line 42 = .ok (.ifCond .eq 7, 3) := by decide +kernel
theorem dX12_line_45 : decode cX12_line 45 = .ok (.iconst 1, 1) := by decide +kernel
theorem dX12_line_46 : decode cX12_line 46 = .ok (.goto 4, 3) := by decide +kernel
theorem dX12_line_49 : decode cX12_line 49 = .ok (.iconst 0, 1) := by decide +kernel
theorem dX12_line_50 : decode cX12_line 50 = .ok (.istore 6, 2) := by decide +kernel
theorem dX12_line_52 : decode cX12_line 52 = .ok (.iload 6, 2) := by decide +kernel
theorem dX12_line_54 : decode cX12_line 54 = .ok (.ifCond .eq 25, 3) := by decide +kernel
theorem dX12_line_57 : decode cX12_line 57 = .ok (.iload 5, 2) := by decide +kernel
theorem dX12_line_59 : decode cX12_line 59 = .ok (.bipush (-9), 2) := by decide +kernel
theorem dX12_line_61 : decode cX12_line 61 = .ok (.if_icmp .eq 20, 3) := by decide +kernel
theorem dX12_line_64 : decode cX12_line 64 = .ok (.iload 5, 2) := by decide +kernel
theorem dX12_line_66 : decode cX12_line 66 = .ok (.iconst 0, 1) := by decide +kernel
theorem dX12_line_67 : decode cX12_line 67 = .ok (.aload_n 0, 1) := by decide +kernel
theorem dX12_line_68 : decode cX12_line 68 = .ok (.getfield 337, 3) := by decide +kernel
theorem dX12_line_71 : decode cX12_line 71 = .ok (.iconst 1, 1) := by decide +kernel
theorem dX12_line_72 : decode cX12_line 72 = .ok (.isub, 1) := by decide +kernel
theorem dX12_line_73 : decode cX12_line 73 = .ok (.invokestatic 168, 3) := by decide +kernel
theorem dX12_line_76 : decode cX12_line 76 = .ok (.ifCond .ne 5, 3) := by decide +kernel
theorem dX12_line_79 : decode cX12_line 79 = .ok (.iconst (-1), 1) := by decide +kernel
theorem dX12_line_80 : decode cX12_line 80 = .ok (.ireturn, 1) := by decide +kernel
theorem dX12_line_81 : decode cX12_line 81 = .ok (.aload_n 0, 1) := by decide +kernel
theorem dX12_line_82 : decode cX12_line 82 = .ok (.getfield 337, 3) := by decide +kernel
theorem dX12_line_85 : decode cX12_line 85 = .ok (.bipush 20, 2) := by decide +kernel
theorem dX12_line_87 : decode cX12_line 87 = .ok (.if_icmp .ne 6, 3) := by decide +kernel
theorem dX12_line_90 : decode cX12_line 90 = .ok (.bipush (-2), 2) := by decide +kernel
theorem dX12_line_92 : decode cX12_line 92 = .ok (.ireturn, 1) := by decide +kernel
theorem dX12_line_93 : decode cX12_line 93 = .ok (.iload 5, 2) := by decide +kernel
theorem dX12_line_95 : decode cX12_line 95 = .ok (.bipush (-9), 2) := by decide +kernel
theorem dX12_line_97 : decode cX12_line 97 = .ok (.if_icmp .eq 29, 3) := by decide +kernel
theorem dX12_line_100 : decode cX12_line 100 = .ok (.aload_n 0, 1) := by decide +kernel
theorem dX12_line_101 : decode cX12_line 101 = .ok (.getfield 138, 3) := by decide +kernel
theorem dX12_line_104 : decode cX12_line 104 = .ok (.iload 5, 2) := by decide +kernel
theorem dX12_line_106 : decode cX12_line 106 = .ok (.iaload, 1) := by decide +kernel
theorem dX12_line_107 : decode cX12_line 107 = .ok (.bipush (-9), 2) := by decide +kernel
theorem dX12_line_109 : decode cX12_line 109 = .ok (.if_icmp .eq 6, 3) := by decide +kernel
theorem dX12_line_112 : decode cX12_line 112 = .ok (.bipush (-4), 2) := by decide +kernel
theorem dX12_line_114 : decode cX12_line 114 = .ok (.ireturn, 1) := by decide +kernel
theorem dX12_line_115 : decode cX12_line 115 = .ok (.aload_n 0, 1) := by decide +kernel
theorem dX12_line_116 : decode cX12_line 116 = .ok (.getfield 138, 3) := by decide +kernel
theorem dX12_line_119 : decode cX12_line 119 = .ok (.iload 5, 2) := by decide +kernel
theorem dX12_line_121 : decode cX12_line 121 = .ok (.aload_n 0, 1) := by decide +kernel
theorem dX12_line_122 : decode cX12_line 122 = .ok (.getfield 212, 3) := by decide +kernel
theorem dX12_line_125 : decode cX12_line 125 = .ok (.iastore, 1) := by decide +kernel
theorem dX12_line_126 : decode cX12_line 126 = .ok (.aload_n 0, 1) := by decide +kernel
theorem dX12_line_127 : decode cX12_line 127 = .ok (.getfield 120, 3) := by decide +kernel
theorem dX12_line_130 : decode cX12_line 130 = .ok (.aload_n 0, 1) := by decide +kernel
theorem dX12_line_131 : decode cX12_line 131 = .ok (.getfield 337, 3) := by decide +kernel
theorem dX12_line_134 : decode cX12_line 134 = .ok (.iload_n 1, 1) := by decide +kernel
theorem dX12_line_135 : decode cX12_line 135 = .ok (.iastore, 1) := by decide +kernel
theorem dX12_line_136 : decode cX12_line 136 = .ok (.aload_n 0, 1) := by decide +kernel
theorem dX12_line_137 : decode cX12_line 137 = .ok (.getfield 123, 3) := by decide +kernel
theorem dX12_line_140 : decode cX12_line 140 = .ok (.aload_n 0, 1) := by decide +kernel
theorem dX12_line_141 : decode cX12_line 141 = .ok (.getfield 337, 3) := by decide +kernel
theorem dX12_line_144 : decode cX12_line 144 = .ok (.iload_n 2, 1) := by decide +kernel
theorem dX12_line_145 : decode cX12_line 145 = .ok (.iastore, 1) := by decide +kernel
theorem dX12_line_146 : decode cX12_line 146 = .ok (.aload_n 0, 1) := by decide +kernel
theorem dX12_line_147 : decode cX12_line 147 = .ok (.getfield 126, 3) := by decide +kernel
theorem dX12_line_150 : decode cX12_line 150 = .ok (.aload_n 0, 1) := by decide +kernel
theorem dX12_line_151 : decode cX12_line 151 = .ok (.getfield 337, 3) := by decide +kernel
theorem dX12_line_154 : decode cX12_line 154 = .ok (.iload_n 3, 1) := by decide +kernel
theorem dX12_line_155 : decode cX12_line 155 = .ok (.iastore, 1) := by decide +kernel
theorem dX12_line_156 : decode cX12_line 156 = .ok (.aload_n 0, 1) := by decide +kernel
theorem dX12_line_157 : decode cX12_line 157 = .ok (.getfield 129, 3) := by decide +kernel
theorem dX12_line_160 : decode cX12_line 160 = .ok (.aload_n 0, 1) := by decide +kernel
theorem dX12_line_161 : decode cX12_line 161 = .ok (.getfield 337, 3) := by decide +kernel
theorem dX12_line_164 : decode cX12_line 164 = .ok (.iload 4, 2) := by decide +kernel
theorem dX12_line_166 : decode cX12_line 166 = .ok (.iastore, 1) := by decide +kernel
theorem dX12_line_167 : decode cX12_line 167 = .ok (.aload_n 0, 1) := by decide +kernel
theorem dX12_line_168 : decode cX12_line 168 = .ok (.getfield 132, 3) := by decide +kernel
theorem dX12_line_171 : decode cX12_line 171 = .ok (.aload_n 0, 1) := by decide +kernel
theorem dX12_line_172 : decode cX12_line 172 = .ok (.getfield 337, 3) := by decide +kernel
theorem dX12_line_175 : decode cX12_line 175 = .ok (.iload 5, 2) := by decide +kernel
theorem dX12_line_177 : decode cX12_line 177 = .ok (.iastore, 1) := by decide +kernel
theorem dX12_line_178 : decode cX12_line 178 = .ok (.aload_n 0, 1) := by decide +kernel
theorem dX12_line_179 : decode cX12_line 179 = .ok (.getfield 135, 3) := by decide +kernel
theorem dX12_line_182 : decode cX12_line 182 = .ok (.aload_n 0, 1) := by decide +kernel
theorem dX12_line_183 : decode cX12_line 183 = .ok (.getfield 337, 3) := by decide +kernel
theorem dX12_line_186 : decode cX12_line 186 = .ok (.aload_n 0, 1) := by decide +kernel
theorem dX12_line_187 : decode cX12_line 187 = .ok (.getfield 212, 3) := by decide +kernel
theorem dX12_line_190 : decode cX12_line 190 = .ok (.iastore, 1) := by decide +kernel
theorem dX12_line_191 : decode cX12_line 191 = .ok (.aload_n 0, 1) := by decide +kernel
theorem dX12_line_192 : decode cX12_line 192 = .ok (.getfield 138, 3) := by decide +kernel
theorem dX12_line_195 : decode cX12_line 195 = .ok (.aload_n 0, 1) := by decide +kernel
theorem dX12_line_196 : decode cX12_line 196 = .ok (.getfield 337, 3) := by decide +kernel
theorem dX12_line_199 : decode cX12_line 199 = .ok (.bipush (-9), 2) := by decide +kernel
theorem dX12_line_201 : decode cX12_line 201 = .ok (.iastore, 1) := by decide +kernel
theorem dX12_line_202 : decode cX12_line 202 = .ok (.aload_n 0, 1) := by decide +kernel
theorem dX12_line_203 : decode cX12_line 203 = .ok (.dup, 1) := by decide +kernel
theorem dX12_line_204 : decode cX12_line 204 = .ok (.getfield 337, 3) := by decide +kernel
theorem dX12_line_207 : decode cX12_line 207 = .ok (.iconst 1, 1) := by decide +kernel
theorem dX12_line_208 : decode cX12_line 208 = .ok (.iadd, 1) := by decide +kernel
theorem dX12_line_209 : decode cX12_line 209 = .ok (.putfield 337, 3) := by decide +kernel
theorem dX12_line_212 : decode cX12_line 212 = .ok (.aload_n 0, 1) := by decide +kernel
theorem dX12_line_213 : decode cX12_line 213 = .ok (.getfield 337, 3) := by decide +kernel
theorem dX12_line_216 : decode cX12_line 216 = .ok (.iconst 1, 1) := by decide +kernel
theorem dX12_line_217 : decode cX12_line 217 = .ok (.isub, 1) := by decide +kernel
theorem dX12_line_218 : decode cX12_line 218 = .ok (.ireturn, 1) := by decide +kernel
theorem dX12_layToday_0 : decode cX12_layToday 0 = .ok (.iconst 0, 1) := by decide +kernel
theorem dX12_layToday_1 : decode cX12_layToday 1 = .ok (.istore 4, 2) := by decide +kernel
theorem dX12_layToday_3 : decode cX12_layToday 3 = .ok (.iload 4, 2) := by decide +kernel
theorem dX12_layToday_5 : decode cX12_layToday 5 = .ok (.sipush 10000, 3) := by decide +kernel
theorem dX12_layToday_8 : decode cX12_layToday 8 = .ok (.if_icmp .ge 27, 3) := by decide +kernel
theorem dX12_layToday_11 : decode cX12_layToday 11 = .ok (.aload_n 0, 1) := by decide +kernel
theorem dX12_layToday_12 : decode cX12_layToday 12 = .ok (.getfield 141, 3) := by decide +kernel
theorem dX12_layToday_15 : decode cX12_layToday 15 = .ok (.iload 4, 2) := by decide +kernel
theorem dX12_layToday_17 : decode cX12_layToday 17 = .ok (.iload 4, 2) := by decide +kernel
theorem dX12_layToday_19 : decode cX12_layToday 19 = .ok (.iload_n 2, 1) := by decide +kernel
theorem dX12_layToday_20 : decode cX12_layToday 20 = .ok (.if_icmp .ne 7, 3) := by decide +kernel
theorem dX12_layToday_23 : decode cX12_layToday 23 = .ok (.iconst 1, 1) := by decide +kernel
theorem dX12_layToday_24 : decode cX12_layToday 24 = .ok (.goto 4, 3) := by decide +kernel
theorem dX12_layToday_27 : decode cX12_layToday 27 = .ok (.iconst 0, 1) := by decide +kernel
theorem dX12_layToday_28 : decode cX12_layToday 28 = .ok (.bastore, 1) := by decide +kernel
theorem dX12_layToday_29 : decode cX12_layToday 29 = .ok (.iinc 4 1, 3) := by decide +kernel
theorem dX12_layToday_32 : decode cX12_layToday 32 = .ok (.goto (-29), 3) := by decide +kernel
theorem dX12_layToday_35 : decode cX12_layToday 35 = .ok (.iload_n 1, 1) := by decide +kernel
theorem dX12_layToday_36 : decode cX12_layToday 36 = .ok (.istore 4, 2) := by decide +kernel
theorem dX12_layToday_38 : decode cX12_layToday 38 = .ok (.iload 4, 2) := by decide +kernel
theorem dX12_layToday_40 : decode cX12_layToday 40 = .ok (.iconst 3, 1) := by decide +kernel
theorem dX12_layToday_41 : decode cX12_layToday 41 = .ok (.if_icmp .ge 198, 3) := by decide +kernel
theorem dX12_layToday_44 : decode cX12_layToday 44 = .ok (.iconst 0, 1) := by decide +kernel
theorem dX12_layToday_45 : decode cX12_layToday 45 = .ok (.istore 5, 2) := by decide +kernel
theorem dX12_layToday_47 : decode cX12_layToday 47 = .ok (.iload 5, 2) := by decide +kernel
theorem dX12_layToday_49 : decode cX12_layToday 49 = .ok (.sipush 10000, 3) := by decide +kernel
theorem dX12_layToday_52 : decode cX12_layToday 52 = .ok (.if_icmp .ge 17, 3) := by decide +kernel
theorem dX12_layToday_55 : decode cX12_layToday 55 = .ok (.aload_n 0, 1) := by decide +kernel
theorem dX12_layToday_56 : decode cX12_layToday 56 = .ok (.getfield 144, 3) := by decide +kernel
theorem dX12_layToday_59 : decode cX12_layToday 59 = .ok (.iload 5, 2) := by decide +kernel
theorem dX12_layToday_61 : decode cX12_layToday 61 = .ok (.iconst 0, 1) := by decide +kernel
theorem dX12_layToday_62 : decode cX12_layToday 62 = .ok (.bastore, 1) := by decide +kernel
theorem dX12_layToday_63 : decode cX12_layToday 63 = .ok (.iinc 5 1, 3) := by decide +kernel
theorem dX12_layToday_66 : decode cX12_layToday 66 = .ok (.goto (-19), 3) := by decide +kernel
theorem dX12_layToday_69 : decode cX12_layToday 69 = .ok (.iconst 0, 1) := by decide +kernel
theorem dX12_layToday_70 : decode cX12_layToday 70 = .ok (.istore 5, 2) := by decide +kernel
theorem dX12_layToday_72 : decode cX12_layToday 72 = .ok (.iload 5, 2) := by decide +kernel
theorem dX12_layToday_74 : decode cX12_layToday 74 = .ok (.aload_n 0, 1) := by decide +kernel
theorem dX12_layToday_75 : decode cX12_layToday 75 = .ok (.getfield 337, 3) := by decide +kernel
theorem dX12_layToday_78 : decode cX12_layToday 78 = .ok (.if_icmp .ge 124, 3) := by decide +kernel
theorem dX12_layToday_81 : decode cX12_layToday 81 = .ok (.aload_n 0, 1) := by decide +kernel
theorem dX12_layToday_82 : decode cX12_layToday 82 = .ok (.getfield 120, 3) := by decide +kernel
theorem dX12_layToday_85 : decode cX12_layToday 85 = .ok (.iload 5, 2) := by decide +kernel
theorem dX12_layToday_87 : decode cX12_layToday 87 = .ok (.iaload, 1) := by decide +kernel
theorem dX12_layToday_88 : decode cX12_layToday 88 = .ok (.iload 4, 2) := by decide +kernel
theorem dX12_layToday_90 : decode cX12_layToday 90 = .ok (.if_icmp .ne 106, 3) := by decide +kernel
theorem dX12_layToday_93 : decode cX12_layToday 93 = .ok (.aload_n 0, 1) := by decide +kernel
theorem dX12_layToday_94 : decode cX12_layToday 94 = .ok (.getfield 135, 3) := by decide +kernel
theorem dX12_layToday_97 : decode cX12_layToday 97 = .ok (.iload 5, 2) := by decide +kernel
theorem dX12_layToday_99 : decode cX12_layToday 99 = .ok (.iaload, 1) := by decide +kernel
theorem dX12_layToday_100 : decode cX12_layToday 100 = .ok (.iload_n 3, 1) := by decide +kernel
theorem dX12_layToday_101 : decode cX12_layToday 101 = .ok (.if_icmp .gt 95, 3) := by decide +kernel
theorem dX12_layToday_104 : decode cX12_layToday 104 = .ok (.aload_n 0, 1) := by decide +kernel
theorem dX12_layToday_105 : decode cX12_layToday 105 = .ok (.getfield 138, 3) := by decide +kernel
theorem dX12_layToday_108 : decode cX12_layToday 108 = .ok (.iload 5, 2) := by decide +kernel
theorem dX12_layToday_110 : decode cX12_layToday 110 = .ok (.iaload, 1) := by decide +kernel
theorem dX12_layToday_111 : decode cX12_layToday 111 = .ok (.bipush (-9), 2) := by decide +kernel
theorem dX12_layToday_113 : decode cX12_layToday 113 = .ok (.if_icmp .eq 14, 3) := by decide +kernel
theorem dX12_layToday_116 : decode cX12_layToday 116 = .ok (.aload_n 0, 1) := by decide +kernel
theorem dX12_layToday_117 : decode cX12_layToday 117 = .ok (.getfield 138, 3) := by decide +kernel
theorem dX12_layToday_120 : decode cX12_layToday 120 = .ok (.iload 5, 2) := by decide +kernel
theorem dX12_layToday_122 : decode cX12_layToday 122 = .ok (.iaload, 1) := by decide +kernel
theorem dX12_layToday_123 : decode cX12_layToday 123 = .ok (.iload_n 3, 1) := by decide +kernel
theorem dX12_layToday_124 : decode cX12_layToday 124 = .ok (.if_icmp .le 72, 3) := by decide +kernel
theorem dX12_layToday_127 : decode cX12_layToday 127 = .ok (.aload_n 0, 1) := by decide +kernel
theorem dX12_layToday_128 : decode cX12_layToday 128 = .ok (.getfield 123, 3) := by decide +kernel
theorem dX12_layToday_131 : decode cX12_layToday 131 = .ok (.iload 5, 2) := by decide +kernel
theorem dX12_layToday_133 : decode cX12_layToday 133 = .ok (.iaload, 1) := by decide +kernel
theorem dX12_layToday_134 : decode cX12_layToday 134 = .ok (.istore 6, 2) := by decide +kernel
theorem dX12_layToday_136 : decode cX12_layToday 136 = .ok (.iload 6, 2) := by decide +kernel
theorem dX12_layToday_138 : decode cX12_layToday 138 = .ok (.aload_n 0, 1) := by decide +kernel
theorem dX12_layToday_139 : decode cX12_layToday 139 = .ok (.getfield 126, 3) := by decide +kernel
theorem dX12_layToday_142 : decode cX12_layToday 142 = .ok (.iload 5, 2) := by decide +kernel
theorem dX12_layToday_144 : decode cX12_layToday 144 = .ok (.iaload, 1) := by decide +kernel
theorem dX12_layToday_145 : decode cX12_layToday 145 = .ok (.if_icmp .gt 51, 3) := by decide +kernel
theorem dX12_layToday_148 : decode cX12_layToday 148 = .ok (.iload 6, 2) := by decide +kernel
theorem dX12_layToday_150 : decode cX12_layToday 150 = .ok (.aload_n 0, 1) := by decide +kernel
theorem dX12_layToday_151 : decode cX12_layToday 151 = .ok (.getfield 129, 3) := by decide +kernel
theorem dX12_layToday_154 : decode cX12_layToday 154 = .ok (.iload 5, 2) := by decide +kernel
theorem dX12_layToday_156 : decode cX12_layToday 156 = .ok (.iaload, 1) := by decide +kernel
theorem dX12_layToday_157 : decode cX12_layToday 157 = .ok (.iadd, 1) := by decide +kernel
theorem dX12_layToday_158 : decode cX12_layToday 158 = .ok (.istore 7, 2) := by decide +kernel
theorem dX12_layToday_160 : decode cX12_layToday 160 = .ok (.aload_n 0, 1) := by decide +kernel
theorem dX12_layToday_161 : decode cX12_layToday 161 = .ok (.getfield 141, 3) := by decide +kernel
theorem dX12_layToday_164 : decode cX12_layToday 164 = .ok (.iload 6, 2) := by decide +kernel
theorem dX12_layToday_166 : decode cX12_layToday 166 = .ok (.baload, 1) := by decide +kernel
theorem dX12_layToday_167 : decode cX12_layToday 167 = .ok (.ifCond .eq 23, 3) := by decide +kernel
theorem dX12_layToday_170 : decode cX12_layToday 170 = .ok (.iload 7, 2) := by decide +kernel
theorem dX12_layToday_172 : decode cX12_layToday 172 = .ok (.iconst 0, 1) := by decide +kernel
theorem dX12_layToday_173 : decode cX12_layToday 173 = .ok (.sipush 9999, 3) := by decide +kernel
theorem dX12_layToday_176 : decode cX12_layToday 176 = .ok (.invokestatic 168, 3) := by decide +kernel
theorem dX12_layToday_179 : decode cX12_layToday 179 = .ok (.ifCond .eq 11, 3) := by decide +kernel
theorem dX12_layToday_182 : decode cX12_layToday 182 = .ok (.aload_n 0, 1) := by decide +kernel
theorem dX12_layToday_183 : decode cX12_layToday 183 = .ok (.getfield 144, 3) := by decide +kernel
theorem dX12_layToday_186 : decode cX12_layToday 186 = .ok (.iload 7, 2) := by decide +kernel
theorem dX12_layToday_188 : decode cX12_layToday 188 = .ok (.iconst 1, 1) := by decide +kernel
theorem dX12_layToday_189 : decode cX12_layToday 189 = .ok (.bastore, 1) := by decide +kernel
theorem dX12_layToday_190 : decode cX12_layToday 190 = .ok (.iinc 6 1, 3) := by decide +kernel
theorem dX12_layToday_193 : decode cX12_layToday 193 = .ok (.goto (-57), 3) := by decide +kernel
theorem dX12_layToday_196 : decode cX12_layToday 196 = .ok (.iinc 5 1, 3) := by decide +kernel
theorem dX12_layToday_199 : decode cX12_layToday 199 = .ok (.goto (-127), 3) := by decide +kernel
theorem dX12_layToday_202 : decode cX12_layToday 202 = .ok (.iconst 0, 1) := by decide +kernel
theorem dX12_layToday_203 : decode cX12_layToday 203 = .ok (.istore 5, 2) := by decide +kernel
theorem dX12_layToday_205 : decode cX12_layToday 205 = .ok (.iload 5, 2) := by decide +kernel
theorem dX12_layToday_207 : decode cX12_layToday 207 = .ok (.sipush 10000, 3) := by decide +kernel
theorem dX12_layToday_210 : decode cX12_layToday 210 = .ok (.if_icmp .ge 23, 3) := by decide +kernel
theorem dX12_layToday_213 : decode cX12_layToday 213 = .ok (.aload_n 0, 1) := by decide +kernel
theorem dX12_layToday_214 : decode cX12_layToday 214 = .ok (.getfield 141, 3) := by decide +kernel
theorem dX12_layToday_217 : decode cX12_layToday 217 = .ok (.iload 5, 2) := by decide +kernel
theorem dX12_layToday_219 : decode cX12_layToday 219 = .ok (.aload_n 0, 1) := by decide +kernel
theorem dX12_layToday_220 : decode cX12_layToday 220 = .ok (.getfield 144, 3) := by decide +kernel
theorem dX12_layToday_223 : decode cX12_layToday 223 = .ok (.iload 5, 2) := by decide +kernel
theorem dX12_layToday_225 : decode cX12_layToday 225 = .ok (.baload, 1) := by decide +kernel
theorem dX12_layToday_226 : decode cX12_layToday 226 = .ok (.bastore, 1) := by decide +kernel
theorem dX12_layToday_227 : decode cX12_layToday 227 = .ok (.iinc 5 1, 3) := by decide +kernel
theorem dX12_layToday_230 : decode cX12_layToday 230 = .ok (.goto (-25), 3) := by decide +kernel
theorem dX12_layToday_233 : decode cX12_layToday 233 = .ok (.iinc 4 1, 3) := by decide +kernel
theorem dX12_layToday_236 : decode cX12_layToday 236 = .ok (.goto (-198), 3) := by decide +kernel
theorem dX12_layToday_239 : decode cX12_layToday 239 = .ok (.return_, 1) := by decide +kernel
theorem dX12_isMark_0 : decode cX12_isMark 0 = .ok (.iload_n 1, 1) := by decide +kernel
theorem dX12_isMark_1 : decode cX12_isMark 1 = .ok (.iconst 0, 1) := by decide +kernel
theorem dX12_isMark_2 : decode cX12_isMark 2 = .ok (.iconst 3, 1) := by decide +kernel
theorem dX12_isMark_3 : decode cX12_isMark 3 = .ok (.invokestatic 168, 3) := by decide +kernel
theorem dX12_isMark_6 : decode cX12_isMark 6 = .ok (.ifCond .eq 30, 3) := by decide +kernel
theorem dX12_isMark_9 : decode cX12_isMark 9 = .ok (.iload_n 2, 1) := by decide +kernel
theorem dX12_isMark_10 : decode cX12_isMark 10 = .ok (.iconst 0, 1) := by decide +kernel
theorem dX12_isMark_11 : decode cX12_isMark 11 = .ok (.sipush 9999, 3) := by decide +kernel
theorem dX12_isMark_14 : decode cX12_isMark 14 = .ok (.invokestatic 168, 3) := by decide +kernel
theorem dX12_isMark_17 : decode cX12_isMark 17 = .ok (.ifCond .eq 19, 3) := by decide +kernel
theorem dX12_isMark_20 : decode cX12_isMark 20 = .ok (.iload_n 3, 1) := by decide +kernel
theorem dX12_isMark_21 : decode cX12_isMark 21 = .ok (.iconst 0, 1) := by decide +kernel
theorem dX12_isMark_22 : decode cX12_isMark 22 = .ok (.aload_n 0, 1) := by decide +kernel
theorem dX12_isMark_23 : decode cX12_isMark 23 = .ok (.getfield 212, 3) := by decide +kernel
theorem dX12_isMark_26 : decode cX12_isMark 26 = .ok (.invokestatic 168, 3) := by decide +kernel
theorem dX12_isMark_29 : decode cX12_isMark 29 = .ok (.ifCond .eq 7, 3) := by decide +kernel
theorem dX12_isMark_32 : decode cX12_isMark 32 = .ok (.iconst 1, 1) := by decide +kernel
theorem dX12_isMark_33 : decode cX12_isMark 33 = .ok (.goto 4, 3) := by decide +kernel
theorem dX12_isMark_36 : decode cX12_isMark 36 = .ok (.iconst 0, 1) := by decide +kernel
theorem dX12_isMark_37 : decode cX12_isMark 37 = .ok (.ireturn, 1) := by decide +kernel
theorem dX12_today_0 : decode cX12_today 0 = .ok (.aload_n 0, 1) := by decide +kernel
theorem dX12_today_1 : decode cX12_today 1 = .ok (.iload_n 1, 1) := by decide +kernel
theorem dX12_today_2 : decode cX12_today 2 = .ok (.iload_n 2, 1) := by decide +kernel
theorem dX12_today_3 : decode cX12_today 3 = .ok (.iload_n 3, 1) := by decide +kernel
theorem dX12_today_4 : decode cX12_today 4 = .ok (.invokevirtual 340, 3) := by decide +kernel
theorem dX12_today_7 : decode cX12_today 7 = .ok (.ifCond .ne 5, 3) := by decide +kernel
theorem dX12_today_10 : decode cX12_today 10 = .ok (.iconst (-1), 1) := by decide +kernel
theorem dX12_today_11 : decode cX12_today 11 = .ok (.ireturn, 1) := by decide +kernel
theorem dX12_today_12 : decode cX12_today 12 = .ok (.aload_n 0, 1) := by decide +kernel
theorem dX12_today_13 : decode cX12_today 13 = .ok (.iload_n 1, 1) := by decide +kernel
theorem dX12_today_14 : decode cX12_today 14 = .ok (.iload_n 2, 1) := by decide +kernel
theorem dX12_today_15 : decode cX12_today 15 = .ok (.iload_n 3, 1) := by decide +kernel
theorem dX12_today_16 : decode cX12_today 16 = .ok (.invokevirtual 343, 3) := by decide +kernel
theorem dX12_today_19 : decode cX12_today 19 = .ok (.iconst 0, 1) := by decide +kernel
theorem dX12_today_20 : decode cX12_today 20 = .ok (.istore 4, 2) := by decide +kernel
theorem dX12_today_22 : decode cX12_today 22 = .ok (.iconst 0, 1) := by decide +kernel
theorem dX12_today_23 : decode cX12_today 23 = .ok (.istore 5, 2) := by decide +kernel
theorem dX12_today_25 : decode cX12_today 25 = .ok (.iload 5, 2) := by decide +kernel
theorem dX12_today_27 : decode cX12_today 27 = .ok (.sipush 10000, 3) := by decide +kernel
theorem dX12_today_30 : decode cX12_today 30 = .ok (.if_icmp .ge 29, 3) := by decide +kernel
theorem dX12_today_33 : decode cX12_today 33 = .ok (.iload 4, 2) := by decide +kernel
theorem dX12_today_35 : decode cX12_today 35 = .ok (.aload_n 0, 1) := by decide +kernel
theorem dX12_today_36 : decode cX12_today 36 = .ok (.getfield 141, 3) := by decide +kernel
theorem dX12_today_39 : decode cX12_today 39 = .ok (.iload 5, 2) := by decide +kernel
theorem dX12_today_41 : decode cX12_today 41 = .ok (.baload, 1) := by decide +kernel
theorem dX12_today_42 : decode cX12_today 42 = .ok (.ifCond .eq 7, 3) := by decide +kernel
theorem dX12_today_45 : decode cX12_today 45 = .ok (.iconst 1, 1) := by decide +kernel
theorem dX12_today_46 : decode cX12_today 46 = .ok (.goto 4, 3) := by decide +kernel
theorem dX12_today_49 : decode cX12_today 49 = .ok (.iconst 0, 1) := by decide +kernel
theorem dX12_today_50 : decode cX12_today 50 = .ok (.iadd, 1) := by decide +kernel
theorem dX12_today_51 : decode cX12_today 51 = .ok (.istore 4, 2) := by decide +kernel
theorem dX12_today_53 : decode cX12_today 53 = .ok (.iinc 5 1, 3) := by decide +kernel
theorem dX12_today_56 : decode cX12_today 56 = .ok (.goto (-31), 3) := by decide +kernel
theorem dX12_today_59 : decode cX12_today 59 = .ok (.iload 4, 2) := by decide +kernel
theorem dX12_today_61 : decode cX12_today 61 = .ok (.ireturn, 1) := by decide +kernel
theorem dX12_turned_0 : decode cX12_turned 0 = .ok (.aload_n 0, 1) := by decide +kernel
theorem dX12_turned_1 : decode cX12_turned 1 = .ok (.iload_n 1, 1) := by decide +kernel
theorem dX12_turned_2 : decode cX12_turned 2 = .ok (.iload_n 2, 1) := by decide +kernel
theorem dX12_turned_3 : decode cX12_turned 3 = .ok (.iload_n 3, 1) := by decide +kernel
theorem dX12_turned_4 : decode cX12_turned 4 = .ok (.invokevirtual 340, 3) := by decide +kernel
theorem dX12_turned_7 : decode cX12_turned 7 = .ok (.ifCond .ne 5, 3) := by decide +kernel
theorem dX12_turned_10 : decode cX12_turned 10 = .ok (.iconst (-1), 1) := by decide +kernel
theorem dX12_turned_11 : decode cX12_turned 11 = .ok (.ireturn, 1) := by decide +kernel
theorem dX12_turned_12 : decode cX12_turned 12 = .ok (.aload_n 0, 1) := by decide +kernel
theorem dX12_turned_13 : decode cX12_turned 13 = .ok (.iload_n 1, 1) := by decide +kernel
theorem dX12_turned_14 : decode cX12_turned 14 = .ok (.iload_n 2, 1) := by decide +kernel
theorem dX12_turned_15 : decode cX12_turned 15 = .ok (.iload_n 3, 1) := by decide +kernel
theorem dX12_turned_16 : decode cX12_turned 16 = .ok (.invokevirtual 343, 3) := by decide +kernel
theorem dX12_turned_19 : decode cX12_turned 19 = .ok (.iconst 0, 1) := by decide +kernel
theorem dX12_turned_20 : decode cX12_turned 20 = .ok (.istore 5, 2) := by decide +kernel
theorem dX12_turned_22 : decode cX12_turned 22 = .ok (.iconst 0, 1) := by decide +kernel
theorem dX12_turned_23 : decode cX12_turned 23 = .ok (.istore 6, 2) := by decide +kernel
theorem dX12_turned_25 : decode cX12_turned 25 = .ok (.iload 6, 2) := by decide +kernel
theorem dX12_turned_27 : decode cX12_turned 27 = .ok (.sipush 10000, 3) := by decide +kernel
theorem dX12_turned_30 : decode cX12_turned 30 = .ok (.if_icmp .ge 32, 3) := by decide +kernel
theorem dX12_turned_33 : decode cX12_turned 33 = .ok (.aload_n 0, 1) := by decide +kernel
theorem dX12_turned_34 : decode cX12_turned 34 = .ok (.getfield 141, 3) := by decide +kernel
theorem dX12_turned_37 : decode cX12_turned 37 = .ok (.iload 6, 2) := by decide +kernel
theorem dX12_turned_39 : decode cX12_turned 39 = .ok (.baload, 1) := by decide +kernel
theorem dX12_turned_40 : decode cX12_turned 40 = .ok (.ifCond .eq 16, 3) := by decide +kernel
theorem dX12_turned_43 : decode cX12_turned 43 = .ok (.iload 5, 2) := by decide +kernel
theorem dX12_turned_45 : decode cX12_turned 45 = .ok (.iload 4, 2) := by decide +kernel
theorem dX12_turned_47 : decode cX12_turned 47 = .ok (.if_icmp .ne 6, 3) := by decide +kernel
theorem dX12_turned_50 : decode cX12_turned 50 = .ok (.iload 6, 2) := by decide +kernel
theorem dX12_turned_52 : decode cX12_turned 52 = .ok (.ireturn, 1) := by decide +kernel
theorem dX12_turned_53 : decode cX12_turned 53 = .ok (.iinc 5 1, 3) := by decide +kernel
theorem dX12_turned_56 : decode cX12_turned 56 = .ok (.iinc 6 1, 3) := by decide +kernel
theorem dX12_turned_59 : decode cX12_turned 59 = .ok (.goto (-34), 3) := by decide +kernel
theorem dX12_turned_62 : decode cX12_turned 62 = .ok (.bipush (-9), 2) := by decide +kernel
theorem dX12_turned_64 : decode cX12_turned 64 = .ok (.ireturn, 1) := by decide +kernel
theorem dX12_along_0 : decode cX12_along 0 = .ok (.iload_n 1, 1) := by decide +kernel
theorem dX12_along_1 : decode cX12_along 1 = .ok (.invokestatic 230, 3) := by decide +kernel
theorem dX12_along_4 : decode cX12_along 4 = .ok (.ifCond .ne 5, 3) := by decide +kernel
theorem dX12_along_7 : decode cX12_along 7 = .ok (.iconst (-1), 1) := by decide +kernel
theorem dX12_along_8 : decode cX12_along 8 = .ok (.ireturn, 1) := by decide +kernel
theorem dX12_along_9 : decode cX12_along 9 = .ok (.iconst 0, 1) := by decide +kernel
theorem dX12_along_10 : decode cX12_along 10 = .ok (.istore_n 2, 1) := by decide +kernel
theorem dX12_along_11 : decode cX12_along 11 = .ok (.iconst 0, 1) := by decide +kernel
theorem dX12_along_12 : decode cX12_along 12 = .ok (.istore_n 3, 1) := by decide +kernel
theorem dX12_along_13 : decode cX12_along 13 = .ok (.iconst 0, 1) := by decide +kernel
theorem dX12_along_14 : decode cX12_along 14 = .ok (.istore 4, 2) := by decide +kernel
theorem dX12_along_16 : decode cX12_along 16 = .ok (.iload 4, 2) := by decide +kernel
theorem dX12_along_18 : decode cX12_along 18 = .ok (.aload_n 0, 1) := by decide +kernel
theorem dX12_along_19 : decode cX12_along 19 = .ok (.getfield 206, 3) := by decide +kernel
theorem dX12_along_22 : decode cX12_along 22 = .ok (.if_icmp .ge 142, 3) := by decide +kernel
theorem dX12_along_25 : decode cX12_along 25 = .ok (.aload_n 0, 1) := by decide +kernel
theorem dX12_along_26 : decode cX12_along 26 = .ok (.getfield 39, 3) := by decide +kernel
theorem dX12_along_29 : decode cX12_along 29 = .ok (.iload 4, 2) := by decide +kernel
theorem dX12_along_31 : decode cX12_along 31 = .ok (.iaload, 1) := by decide +kernel
theorem dX12_along_32 : decode cX12_along 32 = .ok (.iconst 4, 1) := by decide +kernel
theorem dX12_along_33 : decode cX12_along 33 = .ok (.if_icmp .ne 18, 3) := by decide +kernel
theorem dX12_along_36 : decode cX12_along 36 = .ok (.aload_n 0, 1) := by decide +kernel
theorem dX12_along_37 : decode cX12_along 37 = .ok (.getfield 45, 3) := by decide +kernel
theorem dX12_along_40 : decode cX12_along 40 = .ok (.iload 4, 2) := by decide +kernel
theorem dX12_along_42 : decode cX12_along 42 = .ok (.iaload, 1) := by decide +kernel
theorem dX12_along_43 : decode cX12_along 43 = .ok (.iload_n 1, 1) := by decide +kernel
theorem dX12_along_44 : decode cX12_along 44 = .ok (.if_icmp .ne 7, 3) := by decide +kernel
theorem dX12_along_47 : decode cX12_along 47 = .ok (.iconst 1, 1) := by decide +kernel
theorem dX12_along_48 : decode cX12_along 48 = .ok (.goto 4, 3) := by decide +kernel
theorem dX12_along_51 : decode cX12_along 51 = .ok (.iconst 0, 1) := by decide +kernel
theorem dX12_along_52 : decode cX12_along 52 = .ok (.istore 5, 2) := by decide +kernel
theorem dX12_along_54 : decode cX12_along 54 = .ok (.iload 5, 2) := by decide +kernel
theorem dX12_along_56 : decode cX12_along 56 = .ok (.ifCond .ne 24, 3) := by decide +kernel
theorem dX12_along_59 : decode cX12_along 59 = .ok (.aload_n 0, 1) := by decide +kernel
theorem dX12_along_60 : decode cX12_along 60 = .ok (.getfield 39, 3) := by decide +kernel
theorem dX12_along_63 : decode cX12_along 63 = .ok (.iload 4, 2) := by decide +kernel
theorem dX12_along_65 : decode cX12_along 65 = .ok (.iaload, 1) := by decide +kernel
theorem dX12_along_66 : decode cX12_along 66 = .ok (.ifCond .ne 53, 3) := by decide +kernel
theorem dX12_along_69 : decode cX12_along 69 = .ok (.aload_n 0, 1) := by decide +kernel
theorem dX12_along_70 : decode cX12_along 70 = .ok (.getfield 32, 3) := by decide +kernel
theorem dX12_along_73 : decode cX12_along 73 = .ok (.iload 4, 2) := by decide +kernel
theorem dX12_along_75 : decode cX12_along 75 = .ok (.iaload, 1) := by decide +kernel
theorem dX12_along_76 : decode cX12_along 76 = .ok (.iload_n 1, 1) := by decide +kernel
theorem dX12_along_77 : decode cX12_along 77 = .ok (.if_icmp .ne 42, 3) := by decide +kernel
theorem dX12_along_80 : decode cX12_along 80 = .ok (.aload_n 0, 1) := by decide +kernel
theorem dX12_along_81 : decode cX12_along 81 = .ok (.iload 4, 2) := by decide +kernel
theorem dX12_along_83 : decode cX12_along 83 = .ok (.invokevirtual 219, 3) := by decide +kernel
theorem dX12_along_86 : decode cX12_along 86 = .ok (.aload_n 0, 1) := by decide +kernel
theorem dX12_along_87 : decode cX12_along 87 = .ok (.iload 4, 2) := by decide +kernel
theorem dX12_along_89 : decode cX12_along 89 = .ok (.iconst 1, 1) := by decide +kernel
theorem dX12_along_90 : decode cX12_along 90 = .ok (.invokevirtual 310, 3) := by decide +kernel
theorem dX12_along_93 : decode cX12_along 93 = .ok (.aload_n 0, 1) := by decide +kernel
theorem dX12_along_94 : decode cX12_along 94 = .ok (.dup, 1) := by decide +kernel
theorem dX12_along_95 : decode cX12_along 95 = .ok (.getfield 346, 3) := by decide +kernel
theorem dX12_along_98 : decode cX12_along 98 = .ok (.iconst 1, 1) := by decide +kernel
theorem dX12_along_99 : decode cX12_along 99 = .ok (.iadd, 1) := by decide +kernel
theorem dX12_along_100 : decode cX12_along 100 = .ok (.putfield 346, 3) := by decide +kernel
theorem dX12_along_103 : decode cX12_along 103 = .ok (.iload_n 2, 1) := by decide +kernel
theorem dX12_along_104 : decode cX12_along 104 = .ok (.iload 5, 2) := by decide +kernel
theorem dX12_along_106 : decode cX12_along 106 = .ok (.ifCond .eq 7, 3) := by decide +kernel
theorem dX12_along_109 : decode cX12_along 109 = .ok (.iconst 1, 1) := by decide +kernel
theorem dX12_along_110 : decode cX12_along 110 = .ok (.goto 4, 3) := by decide +kernel
theorem dX12_along_113 : decode cX12_along 113 = .ok (.iconst 0, 1) := by decide +kernel
theorem dX12_along_114 : decode cX12_along 114 = .ok (.iadd, 1) := by decide +kernel
theorem dX12_along_115 : decode cX12_along 115 = .ok (.istore_n 2, 1) := by decide +kernel
theorem dX12_along_116 : decode cX12_along 116 = .ok (.goto 42, 3) := by decide +kernel
theorem dX12_along_119 : decode cX12_along 119 = .ok (.aload_n 0, 1) := by decide +kernel
theorem dX12_along_120 : decode cX12_along 120 = .ok (.getfield 32, 3) := by decide +kernel
theorem dX12_along_123 : decode cX12_along 123 = .ok (.iload 4, 2) := by decide +kernel
theorem dX12_along_125 : decode cX12_along 125 = .ok (.iaload, 1) := by decide +kernel
theorem dX12_along_126 : decode cX12_along 126 = .ok (.iload_n 1, 1) := by decide +kernel
theorem dX12_along_127 : decode cX12_along 127 = .ok (.if_icmp .ne 31, 3) := by decide +kernel
theorem dX12_along_130 : decode cX12_along 130 = .ok (.aload_n 0, 1) := by decide +kernel
theorem dX12_along_131 : decode cX12_along 131 = .ok (.getfield 42, 3) := by decide +kernel
theorem dX12_along_134 : decode cX12_along 134 = .ok (.iload 4, 2) := by decide +kernel
theorem dX12_along_136 : decode cX12_along 136 = .ok (.iaload, 1) := by decide +kernel
theorem dX12_along_137 : decode cX12_along 137 = .ok (.ifCond .ne 21, 3) := by decide +kernel
theorem dX12_along_140 : decode cX12_along 140 = .ok (.aload_n 0, 1) := by decide +kernel
theorem dX12_along_141 : decode cX12_along 141 = .ok (.getfield 42, 3) := by decide +kernel
theorem dX12_along_144 : decode cX12_along 144 = .ok (.iload 4, 2) := by decide +kernel
theorem dX12_along_146 : decode cX12_along 146 = .ok (.iconst 3, 1) := by decide +kernel
theorem dX12_along_147 : decode cX12_along 147 = .ok (.iastore, 1) := by decide +kernel
theorem dX12_along_148 : decode cX12_along 148 = .ok (.aload_n 0, 1) := by decide +kernel
theorem dX12_along_149 : decode cX12_along 149 = .ok (.iload 4, 2) := by decide +kernel
theorem dX12_along_151 : decode cX12_along 151 = .ok (.iconst 0, 1) := by decide +kernel
theorem dX12_along_152 : decode cX12_along 152 = .ok (.invokevirtual 310, 3) := by decide +kernel
theorem dX12_along_155 : decode cX12_along 155 = .ok (.iinc 3 1, 3) := by decide +kernel
theorem dX12_along_158 : decode cX12_along 158 = .ok (.iinc 4 1, 3) := by decide +kernel
theorem dX12_along_161 : decode cX12_along 161 = .ok (.goto (-145), 3) := by decide +kernel
theorem dX12_along_164 : decode cX12_along 164 = .ok (.aload_n 0, 1) := by decide +kernel
theorem dX12_along_165 : decode cX12_along 165 = .ok (.dup, 1) := by decide +kernel
theorem dX12_along_166 : decode cX12_along 166 = .ok (.getfield 349, 3) := by decide +kernel
theorem dX12_along_169 : decode cX12_along 169 = .ok (.iload_n 2, 1) := by decide +kernel
theorem dX12_along_170 : decode cX12_along 170 = .ok (.iadd, 1) := by decide +kernel
theorem dX12_along_171 : decode cX12_along 171 = .ok (.putfield 349, 3) := by decide +kernel
theorem dX12_along_174 : decode cX12_along 174 = .ok (.aload_n 0, 1) := by decide +kernel
theorem dX12_along_175 : decode cX12_along 175 = .ok (.iload_n 3, 1) := by decide +kernel
theorem dX12_along_176 : decode cX12_along 176 = .ok (.iload_n 2, 1) := by decide +kernel
theorem dX12_along_177 : decode cX12_along 177 = .ok (.invokevirtual 190, 3) := by decide +kernel
theorem dX12_along_180 : decode cX12_along 180 = .ok (.ireturn, 1) := by decide +kernel
theorem dX12_nextMark_0 : decode cX12_nextMark 0 = .ok (.bipush (-9), 2) := by decide +kernel
theorem dX12_nextMark_2 : decode cX12_nextMark 2 = .ok (.istore_n 3, 1) := by decide +kernel
theorem dX12_nextMark_3 : decode cX12_nextMark 3 = .ok (.iconst 0, 1) := by decide +kernel
theorem dX12_nextMark_4 : decode cX12_nextMark 4 = .ok (.istore 4, 2) := by decide +kernel
theorem dX12_nextMark_6 : decode cX12_nextMark 6 = .ok (.iload 4, 2) := by decide +kernel
theorem dX12_nextMark_8 : decode cX12_nextMark 8 = .ok (.aload_n 0, 1) := by decide +kernel
theorem dX12_nextMark_9 : decode cX12_nextMark 9 = .ok (.getfield 206, 3) := by decide +kernel
theorem dX12_nextMark_12 : decode cX12_nextMark 12 = .ok (.if_icmp .ge 129, 3) := by decide +kernel
theorem dX12_nextMark_15 : decode cX12_nextMark 15 = .ok (.iload_n 2, 1) := by decide +kernel
theorem dX12_nextMark_16 : decode cX12_nextMark 16 = .ok (.ifCond .eq 27, 3) := by decide +kernel
theorem dX12_nextMark_19 : decode cX12_nextMark 19 = .ok (.aload_n 0, 1) := by decide +kernel
theorem dX12_nextMark_20 : decode cX12_nextMark 20 = .ok (.getfield 29, 3) := by decide +kernel
theorem dX12_nextMark_23 : decode cX12_nextMark 23 = .ok (.iload 4, 2) := by decide +kernel
theorem dX12_nextMark_25 : decode cX12_nextMark 25 = .ok (.iaload, 1) := by decide +kernel
theorem dX12_nextMark_26 : decode cX12_nextMark 26 = .ok (.aload_n 0, 1) := by decide +kernel
theorem dX12_nextMark_27 : decode cX12_nextMark 27 = .ok (.getfield 29, 3) := by decide +kernel
theorem dX12_nextMark_30 : decode cX12_nextMark 30 = .ok (.iload_n 1, 1) := by decide +kernel
theorem dX12_nextMark_31 : decode cX12_nextMark 31 = .ok (.iaload, 1) := by decide +kernel
theorem dX12_nextMark_32 : decode cX12_nextMark 32 = .ok (.if_icmp .le 7, 3) := by decide +kernel
theorem dX12_nextMark_35 : decode cX12_nextMark 35 = .ok (.iconst 1, 1) := by decide +kernel
theorem dX12_nextMark_36 : decode cX12_nextMark 36 = .ok (.goto 28, 3) := by decide +kernel
theorem dX12_nextMark_39 : decode cX12_nextMark 39 = .ok (.iconst 0, 1) := by decide +kernel
theorem dX12_nextMark_40 : decode cX12_nextMark 40 = .ok (.goto 24, 3) := by decide +kernel
theorem dX12_nextMark_43 : decode cX12_nextMark 43 = .ok (.aload_n 0, 1) := by decide +kernel
theorem dX12_nextMark_44 : decode cX12_nextMark 44 = .ok (.getfield 29, 3) := by decide +kernel
theorem dX12_nextMark_47 : decode cX12_nextMark 47 = .ok (.iload 4, 2) := by decide +kernel
theorem dX12_nextMark_49 : decode cX12_nextMark 49 = .ok (.iaload, 1) := by decide +kernel
theorem dX12_nextMark_50 : decode cX12_nextMark 50 = .ok (.aload_n 0, 1) := by decide +kernel
theorem dX12_nextMark_51 : decode cX12_nextMark 51 = .ok (.getfield 29, 3) := by decide +kernel
theorem dX12_nextMark_54 : decode cX12_nextMark 54 = .ok (.iload_n 1, 1) := by decide +kernel
theorem dX12_nextMark_55 : decode cX12_nextMark 55 = .ok (.iaload, 1) := by decide +kernel
theorem dX12_nextMark_56 : decode cX12_nextMark 56 = .ok (.if_icmp .ge 7, 3) := by decide +kernel
theorem dX12_nextMark_59 : decode cX12_nextMark 59 = .ok (.iconst 1, 1) := by decide +kernel
theorem dX12_nextMark_60 : decode cX12_nextMark 60 = .ok (.goto 4, 3) := by decide +kernel
theorem dX12_nextMark_63 : decode cX12_nextMark 63 = .ok (.iconst 0, 1) := by decide +kernel
theorem dX12_nextMark_64 : decode cX12_nextMark 64 = .ok (.istore 5, 2) := by decide +kernel
theorem dX12_nextMark_66 : decode cX12_nextMark 66 = .ok (.iload_n 3, 1) := by decide +kernel
theorem dX12_nextMark_67 : decode cX12_nextMark 67 = .ok (.bipush (-9), 2) := by decide +kernel
theorem dX12_nextMark_69 : decode cX12_nextMark 69 = .ok (.if_icmp .eq 42, 3) := by decide +kernel
theorem dX12_nextMark_72 : decode cX12_nextMark 72 = .ok (.iload_n 2, 1) := by decide +kernel
theorem dX12_nextMark_73 : decode cX12_nextMark 73 = .ok (.ifCond .eq 22, 3) := by decide +kernel
theorem dX12_nextMark_76 : decode cX12_nextMark 76 = .ok (.aload_n 0, 1) := by decide +kernel
theorem dX12_nextMark_77 : decode cX12_nextMark 77 = .ok (.getfield 29, 3) := by decide +kernel
theorem dX12_nextMark_80 : decode cX12_nextMark 80 = .ok (.iload 4, 2) := by decide +kernel
theorem dX12_nextMark_82 : decode cX12_nextMark 82 = .ok (.iaload, 1) := by decide +kernel
theorem dX12_nextMark_83 : decode cX12_nextMark 83 = .ok (.aload_n 0, 1) := by decide +kernel
theorem dX12_nextMark_84 : decode cX12_nextMark 84 = .ok (.getfield 29, 3) := by decide +kernel
theorem dX12_nextMark_87 : decode cX12_nextMark 87 = .ok (.iload_n 3, 1) := by decide +kernel
theorem dX12_nextMark_88 : decode cX12_nextMark 88 = .ok (.iaload, 1) := by decide +kernel
theorem dX12_nextMark_89 : decode cX12_nextMark 89 = .ok (.if_icmp .ge 26, 3) := by decide +kernel
theorem dX12_nextMark_92 : decode cX12_nextMark 92 = .ok (.goto 19, 3) := by decide +kernel
theorem dX12_nextMark_95 : decode cX12_nextMark 95 = .ok (.aload_n 0, 1) := by decide +kernel
theorem dX12_nextMark_96 : decode cX12_nextMark 96 = .ok (.getfield 29, 3) := by decide +kernel
theorem dX12_nextMark_99 : decode cX12_nextMark 99 = .ok (.iload 4, 2) := by decide +kernel
theorem dX12_nextMark_101 : decode cX12_nextMark 101 = .ok (.iaload, 1) := by decide +kernel
theorem dX12_nextMark_102 : decode cX12_nextMark 102 = .ok (.aload_n 0, 1) := by decide +kernel
theorem dX12_nextMark_103 : decode cX12_nextMark 103 = .ok (.getfield 29, 3) := by decide +kernel
theorem dX12_nextMark_106 : decode cX12_nextMark 106 = .ok (.iload_n 3, 1) := by decide +kernel
theorem dX12_nextMark_107 : decode cX12_nextMark 107 = .ok (.iaload, 1) := by decide +kernel
theorem dX12_nextMark_108 : decode cX12_nextMark 108 = .ok (.if_icmp .le 7, 3) := by decide +kernel
theorem dX12_nextMark_111 : decode cX12_nextMark 111 = .ok (.iconst 1, 1) := by decide +kernel
theorem dX12_nextMark_112 : decode cX12_nextMark 112 = .ok (.goto 4, 3) := by decide +kernel
theorem dX12_nextMark_115 : decode cX12_nextMark 115 = .ok (.iconst 0, 1) := by decide +kernel
theorem dX12_nextMark_116 : decode cX12_nextMark 116 = .ok (.istore 6, 2) := by decide +kernel
theorem dX12_nextMark_118 : decode cX12_nextMark 118 = .ok (.iload 5, 2) := by decide +kernel
theorem dX12_nextMark_120 : decode cX12_nextMark 120 = .ok (.ifCond .eq 13, 3) := by decide +kernel
theorem dX12_nextMark_123 : decode cX12_nextMark 123 = .ok (.iload 6, 2) := by decide +kernel
theorem dX12_nextMark_125 : decode cX12_nextMark 125 = .ok (.ifCond .eq 8, 3) := by decide +kernel
theorem dX12_nextMark_128 : decode cX12_nextMark 128 = .ok (.iload 4, 2) := by decide +kernel
theorem dX12_nextMark_130 : decode cX12_nextMark 130 = .ok (.goto 4, 3) := by decide +kernel
theorem dX12_nextMark_133 : decode cX12_nextMark 133 = .ok (.iload_n 3, 1) := by decide +kernel
theorem dX12_nextMark_134 : decode cX12_nextMark 134 = .ok (.istore_n 3, 1) := by decide +kernel
theorem dX12_nextMark_135 : decode cX12_nextMark 135 = .ok (.iinc 4 1, 3) := by decide +kernel
theorem dX12_nextMark_138 : decode cX12_nextMark 138 = .ok (.goto (-132), 3) := by decide +kernel
theorem dX12_nextMark_141 : decode cX12_nextMark 141 = .ok (.iload_n 3, 1) := by decide +kernel
theorem dX12_nextMark_142 : decode cX12_nextMark 142 = .ok (.ireturn, 1) := by decide +kernel
theorem dX12_isChanged_0 : decode cX12_isChanged 0 = .ok (.iconst 0, 1) := by decide +kernel
theorem dX12_isChanged_1 : decode cX12_isChanged 1 = .ok (.istore_n 2, 1) := by decide +kernel
theorem dX12_isChanged_2 : decode cX12_isChanged 2 = .ok (.iconst 1, 1) := by decide +kernel
theorem dX12_isChanged_3 : decode cX12_isChanged 3 = .ok (.istore_n 3, 1) := by decide +kernel
theorem dX12_isChanged_4 : decode cX12_isChanged 4 = .ok (.iload_n 3, 1) := by decide +kernel
theorem dX12_isChanged_5 : decode cX12_isChanged 5 = .ok (.sipush 1000, 3) := by decide +kernel
theorem dX12_isChanged_8 : decode cX12_isChanged 8 = .ok (.if_icmp .ge 71, 3) := by decide +kernel
theorem dX12_isChanged_11 : decode cX12_isChanged 11 = .ok (.iload_n 0, 1) := by decide +kernel
theorem dX12_isChanged_12 : decode cX12_isChanged 12 = .ok (.iload_n 3, 1) := by decide +kernel
theorem dX12_isChanged_13 : decode cX12_isChanged 13 = .ok (.idiv, 1) := by decide +kernel
theorem dX12_isChanged_14 : decode cX12_isChanged 14 = .ok (.bipush 10, 2) := by decide +kernel
theorem dX12_isChanged_16 : decode cX12_isChanged 16 = .ok (.irem, 1) := by decide +kernel
theorem dX12_isChanged_17 : decode cX12_isChanged 17 = .ok (.istore 4, 2) := by decide +kernel
theorem dX12_isChanged_19 : decode cX12_isChanged 19 = .ok (.iload_n 0, 1) := by decide +kernel
theorem dX12_isChanged_20 : decode cX12_isChanged 20 = .ok (.iload_n 3, 1) := by decide +kernel
theorem dX12_isChanged_21 : decode cX12_isChanged 21 = .ok (.idiv, 1) := by decide +kernel
theorem dX12_isChanged_22 : decode cX12_isChanged 22 = .ok (.bipush 10, 2) := by decide +kernel
theorem dX12_isChanged_24 : decode cX12_isChanged 24 = .ok (.idiv, 1) := by decide +kernel
theorem dX12_isChanged_25 : decode cX12_isChanged 25 = .ok (.bipush 10, 2) := by decide +kernel
theorem dX12_isChanged_27 : decode cX12_isChanged 27 = .ok (.irem, 1) := by decide +kernel
theorem dX12_isChanged_28 : decode cX12_isChanged 28 = .ok (.istore 5, 2) := by decide +kernel
theorem dX12_isChanged_30 : decode cX12_isChanged 30 = .ok (.iload_n 2, 1) := by decide +kernel
theorem dX12_isChanged_31 : decode cX12_isChanged 31 = .ok (.ifCond .ne 34, 3) := by decide +kernel
theorem dX12_isChanged_34 : decode cX12_isChanged 34 = .ok (.iload 4, 2) := by decide +kernel
theorem dX12_isChanged_36 : decode cX12_isChanged 36 = .ok (.iload 5, 2) := by decide +kernel
theorem dX12_isChanged_38 : decode cX12_isChanged 38 = .ok (.if_icmp .eq 31, 3) := by decide +kernel
theorem dX12_isChanged_41 : decode cX12_isChanged 41 = .ok (.iload_n 0, 1) := by decide +kernel
theorem dX12_isChanged_42 : decode cX12_isChanged 42 = .ok (.iload 5, 2) := by decide +kernel
theorem dX12_isChanged_44 : decode cX12_isChanged 44 = .ok (.iload 4, 2) := by decide +kernel
theorem dX12_isChanged_46 : decode cX12_isChanged 46 = .ok (.isub, 1) := by decide +kernel
theorem dX12_isChanged_47 : decode cX12_isChanged 47 = .ok (.iload_n 3, 1) := by decide +kernel
theorem dX12_isChanged_48 : decode cX12_isChanged 48 = .ok (.imul, 1) := by decide +kernel
theorem dX12_isChanged_49 : decode cX12_isChanged 49 = .ok (.iadd, 1) := by decide +kernel
theorem dX12_isChanged_50 : decode cX12_isChanged 50 = .ok (.iload 4, 2) := by decide +kernel
theorem dX12_isChanged_52 : decode cX12_isChanged 52 = .ok (.iload 5, 2) := by decide +kernel
theorem dX12_isChanged_54 : decode cX12_isChanged 54 = .ok (.isub, 1) := by decide +kernel
theorem dX12_isChanged_55 : decode cX12_isChanged 55 = .ok (.bipush 10, 2) := by decide +kernel
theorem dX12_isChanged_57 : decode cX12_isChanged 57 = .ok (.imul, 1) := by decide +kernel
theorem dX12_isChanged_58 : decode cX12_isChanged 58 = .ok (.iload_n 3, 1) := by decide +kernel
theorem dX12_isChanged_59 : decode cX12_isChanged 59 = .ok (.imul, 1) := by decide +kernel
theorem dX12_isChanged_60 : decode cX12_isChanged 60 = .ok (.iadd, 1) := by decide +kernel
theorem dX12_isChanged_61 : decode cX12_isChanged 61 = .ok (.iload_n 1, 1) := by decide +kernel
theorem dX12_isChanged_62 : decode cX12_isChanged 62 = .ok (.if_icmp .ne 7, 3) := by decide +kernel
theorem dX12_isChanged_65 : decode cX12_isChanged 65 = .ok (.iconst 1, 1) := by decide +kernel
theorem dX12_isChanged_66 : decode cX12_isChanged 66 = .ok (.goto 4, 3) := by decide +kernel
theorem dX12_isChanged_69 : decode cX12_isChanged 69 = .ok (.iconst 0, 1) := by decide +kernel
theorem dX12_isChanged_70 : decode cX12_isChanged 70 = .ok (.istore_n 2, 1) := by decide +kernel
theorem dX12_isChanged_71 : decode cX12_isChanged 71 = .ok (.iload_n 3, 1) := by decide +kernel
theorem dX12_isChanged_72 : decode cX12_isChanged 72 = .ok (.bipush 10, 2) := by decide +kernel
theorem dX12_isChanged_74 : decode cX12_isChanged 74 = .ok (.imul, 1) := by decide +kernel
theorem dX12_isChanged_75 : decode cX12_isChanged 75 = .ok (.istore_n 3, 1) := by decide +kernel
theorem dX12_isChanged_76 : decode cX12_isChanged 76 = .ok (.goto (-72), 3) := by decide +kernel
theorem dX12_isChanged_79 : decode cX12_isChanged 79 = .ok (.iload_n 2, 1) := by decide +kernel
theorem dX12_isChanged_80 : decode cX12_isChanged 80 = .ok (.ireturn, 1) := by decide +kernel
theorem dX12_lastReader_0 : decode cX12_lastReader 0 = .ok (.bipush (-9), 2) := by decide +kernel
theorem dX12_lastReader_2 : decode cX12_lastReader 2 = .ok (.istore_n 2, 1) := by decide +kernel
theorem dX12_lastReader_3 : decode cX12_lastReader 3 = .ok (.iconst 0, 1) := by decide +kernel
theorem dX12_lastReader_4 : decode cX12_lastReader 4 = .ok (.istore_n 3, 1) := by decide +kernel
theorem dX12_lastReader_5 : decode cX12_lastReader 5 = .ok (.iload_n 3, 1) := by decide +kernel
theorem dX12_lastReader_6 : decode cX12_lastReader 6 = .ok (.aload_n 0, 1) := by decide +kernel
theorem dX12_lastReader_7 : decode cX12_lastReader 7 = .ok (.getfield 209, 3) := by decide +kernel
theorem dX12_lastReader_10 : decode cX12_lastReader 10 = .ok (.if_icmp .ge 30, 3) := by decide +kernel
theorem dX12_lastReader_13 : decode cX12_lastReader 13 = .ok (.aload_n 0, 1) := by decide +kernel
theorem dX12_lastReader_14 : decode cX12_lastReader 14 = .ok (.getfield 54, 3) := by decide +kernel
theorem dX12_lastReader_17 : decode cX12_lastReader 17 = .ok (.iload_n 3, 1) := by decide +kernel
theorem dX12_lastReader_18 : decode cX12_lastReader 18 = .ok (.iaload, 1) := by decide +kernel
theorem dX12_lastReader_19 : decode cX12_lastReader 19 = .ok (.iload_n 1, 1) := by decide +kernel
theorem dX12_lastReader_20 : decode cX12_lastReader 20 = .ok (.if_icmp .ne 12, 3) := by decide +kernel
theorem dX12_lastReader_23 : decode cX12_lastReader 23 = .ok (.aload_n 0, 1) := by decide +kernel
theorem dX12_lastReader_24 : decode cX12_lastReader 24 = .ok (.getfield 57, 3) := by decide +kernel
theorem dX12_lastReader_27 : decode cX12_lastReader 27 = .ok (.iload_n 3, 1) := by decide +kernel
theorem dX12_lastReader_28 : decode cX12_lastReader 28 = .ok (.iaload, 1) := by decide +kernel
theorem dX12_lastReader_29 : decode cX12_lastReader 29 = .ok (.goto 4, 3) := by decide +kernel
theorem dX12_lastReader_32 : decode cX12_lastReader 32 = .ok (.iload_n 2, 1) := by decide +kernel
theorem dX12_lastReader_33 : decode cX12_lastReader 33 = .ok (.istore_n 2, 1) := by decide +kernel
theorem dX12_lastReader_34 : decode cX12_lastReader 34 = .ok (.iinc 3 1, 3) := by decide +kernel
theorem dX12_lastReader_37 : decode cX12_lastReader 37 = .ok (.goto (-32), 3) := by decide +kernel
theorem dX12_lastReader_40 : decode cX12_lastReader 40 = .ok (.iload_n 2, 1) := by decide +kernel
theorem dX12_lastReader_41 : decode cX12_lastReader 41 = .ok (.ireturn, 1) := by decide +kernel
theorem dX12_everHad_0 : decode cX12_everHad 0 = .ok (.iconst 0, 1) := by decide +kernel
theorem dX12_everHad_1 : decode cX12_everHad 1 = .ok (.istore_n 3, 1) := by decide +kernel
theorem dX12_everHad_2 : decode cX12_everHad 2 = .ok (.iconst 0, 1) := by decide +kernel
theorem dX12_everHad_3 : decode cX12_everHad 3 = .ok (.istore 4, 2) := by decide +kernel
theorem dX12_everHad_5 : decode cX12_everHad 5 = .ok (.iload 4, 2) := by decide +kernel
theorem dX12_everHad_7 : decode cX12_everHad 7 = .ok (.aload_n 0, 1) := by decide +kernel
theorem dX12_everHad_8 : decode cX12_everHad 8 = .ok (.getfield 209, 3) := by decide +kernel
theorem dX12_everHad_11 : decode cX12_everHad 11 = .ok (.if_icmp .ge 41, 3) := by decide +kernel
theorem dX12_everHad_14 : decode cX12_everHad 14 = .ok (.iload_n 3, 1) := by decide +kernel
theorem dX12_everHad_15 : decode cX12_everHad 15 = .ok (.ifCond .ne 25, 3) := by decide +kernel
theorem dX12_everHad_18 : decode cX12_everHad 18 = .ok (.aload_n 0, 1) := by decide +kernel
theorem dX12_everHad_19 : decode cX12_everHad 19 = .ok (.getfield 57, 3) := by decide +kernel
theorem dX12_everHad_22 : decode cX12_everHad 22 = .ok (.iload 4, 2) := by decide +kernel
theorem dX12_everHad_24 : decode cX12_everHad 24 = .ok (.iaload, 1) := by decide +kernel
theorem dX12_everHad_25 : decode cX12_everHad 25 = .ok (.iload_n 1, 1) := by decide +kernel
theorem dX12_everHad_26 : decode cX12_everHad 26 = .ok (.if_icmp .ne 18, 3) := by decide +kernel
theorem dX12_everHad_29 : decode cX12_everHad 29 = .ok (.aload_n 0, 1) := by decide +kernel
theorem dX12_everHad_30 : decode cX12_everHad 30 = .ok (.getfield 54, 3) := by decide +kernel
theorem dX12_everHad_33 : decode cX12_everHad 33 = .ok (.iload 4, 2) := by decide +kernel
theorem dX12_everHad_35 : decode cX12_everHad 35 = .ok (.iaload, 1) := by decide +kernel
theorem dX12_everHad_36 : decode cX12_everHad 36 = .ok (.iload_n 2, 1) := by decide +kernel
theorem dX12_everHad_37 : decode cX12_everHad 37 = .ok (.if_icmp .ne 7, 3) := by decide +kernel
theorem dX12_everHad_40 : decode cX12_everHad 40 = .ok (.iconst 1, 1) := by decide +kernel
theorem dX12_everHad_41 : decode cX12_everHad 41 = .ok (.goto 4, 3) := by decide +kernel
theorem dX12_everHad_44 : decode cX12_everHad 44 = .ok (.iconst 0, 1) := by decide +kernel
theorem dX12_everHad_45 : decode cX12_everHad 45 = .ok (.istore_n 3, 1) := by decide +kernel
theorem dX12_everHad_46 : decode cX12_everHad 46 = .ok (.iinc 4 1, 3) := by decide +kernel
theorem dX12_everHad_49 : decode cX12_everHad 49 = .ok (.goto (-44), 3) := by decide +kernel
theorem dX12_everHad_52 : decode cX12_everHad 52 = .ok (.iload_n 3, 1) := by decide +kernel
theorem dX12_everHad_53 : decode cX12_everHad 53 = .ok (.ireturn, 1) := by decide +kernel
theorem dX12_likelyOf_0 : decode cX12_likelyOf 0 = .ok (.aload_n 0, 1) := by decide +kernel
theorem dX12_likelyOf_1 : decode cX12_likelyOf 1 = .ok (.getfield 32, 3) := by decide +kernel
theorem dX12_likelyOf_4 : decode cX12_likelyOf 4 = .ok (.iload_n 1, 1) := by decide +kernel
theorem dX12_likelyOf_5 : decode cX12_likelyOf 5 = .ok (.iaload, 1) := by decide +kernel
theorem dX12_likelyOf_6 : decode cX12_likelyOf 6 = .ok (.iload_n 2, 1) := by decide +kernel
theorem dX12_likelyOf_7 : decode cX12_likelyOf 7 = .ok (.if_icmp .ne 5, 3) := by decide +kernel
theorem dX12_likelyOf_10 : decode cX12_likelyOf 10 = .ok (.iconst 0, 1) := by decide +kernel
theorem dX12_likelyOf_11 : decode cX12_likelyOf 11 = .ok (.ireturn, 1) := by decide +kernel
theorem dX12_likelyOf_12 : decode cX12_likelyOf 12 = .ok (.iload_n 2, 1) := by decide +kernel
theorem dX12_likelyOf_13 : decode cX12_likelyOf 13 = .ok (.iconst 2, 1) := by decide +kernel
theorem dX12_likelyOf_14 : decode cX12_likelyOf 14 = .ok (.idiv, 1) := by decide +kernel
theorem dX12_likelyOf_15 : decode cX12_likelyOf 15 = .ok (.aload_n 0, 1) := by decide +kernel
theorem dX12_likelyOf_16 : decode cX12_likelyOf 16 = .ok (.getfield 32, 3) := by decide +kernel
theorem dX12_likelyOf_19 : decode cX12_likelyOf 19 = .ok (.iload_n 1, 1) := by decide +kernel
theorem dX12_likelyOf_20 : decode cX12_likelyOf 20 = .ok (.iaload, 1) := by decide +kernel
theorem dX12_likelyOf_21 : decode cX12_likelyOf 21 = .ok (.iconst 2, 1) := by decide +kernel
theorem dX12_likelyOf_22 : decode cX12_likelyOf 22 = .ok (.idiv, 1) := by decide +kernel
theorem dX12_likelyOf_23 : decode cX12_likelyOf 23 = .ok (.if_icmp .ne 7, 3) := by decide +kernel
theorem dX12_likelyOf_26 : decode cX12_likelyOf 26 = .ok (.iconst 1, 1) := by decide +kernel
theorem dX12_likelyOf_27 : decode cX12_likelyOf 27 = .ok (.goto 4, 3) := by decide +kernel
theorem dX12_likelyOf_30 : decode cX12_likelyOf 30 = .ok (.iconst 0, 1) := by decide +kernel
theorem dX12_likelyOf_31 : decode cX12_likelyOf 31 = .ok (.istore_n 3, 1) := by decide +kernel
theorem dX12_likelyOf_32 : decode cX12_likelyOf 32 = .ok (.aload_n 0, 1) := by decide +kernel
theorem dX12_likelyOf_33 : decode cX12_likelyOf 33 = .ok (.iload_n 1, 1) := by decide +kernel
theorem dX12_likelyOf_34 : decode cX12_likelyOf 34 = .ok (.iconst 1, 1) := by decide +kernel
theorem dX12_likelyOf_35 : decode cX12_likelyOf 35 = .ok (.invokevirtual 352, 3) := by decide +kernel
theorem dX12_likelyOf_38 : decode cX12_likelyOf 38 = .ok (.istore 4, 2) := by decide +kernel
theorem dX12_likelyOf_40 : decode cX12_likelyOf 40 = .ok (.aload_n 0, 1) := by decide +kernel
theorem dX12_likelyOf_41 : decode cX12_likelyOf 41 = .ok (.iload_n 1, 1) := by decide +kernel
theorem dX12_likelyOf_42 : decode cX12_likelyOf 42 = .ok (.iconst 0, 1) := by decide +kernel
theorem dX12_likelyOf_43 : decode cX12_likelyOf 43 = .ok (.invokevirtual 352, 3) := by decide +kernel
theorem dX12_likelyOf_46 : decode cX12_likelyOf 46 = .ok (.istore 5, 2) := by decide +kernel
theorem dX12_likelyOf_48 : decode cX12_likelyOf 48 = .ok (.iload_n 3, 1) := by decide +kernel
theorem dX12_likelyOf_49 : decode cX12_likelyOf 49 = .ok (.iload 4, 2) := by decide +kernel
theorem dX12_likelyOf_51 : decode cX12_likelyOf 51 = .ok (.bipush (-9), 2) := by decide +kernel
theorem dX12_likelyOf_53 : decode cX12_likelyOf 53 = .ok (.if_icmp .eq 18, 3) := by decide +kernel
theorem dX12_likelyOf_56 : decode cX12_likelyOf 56 = .ok (.aload_n 0, 1) := by decide +kernel
theorem dX12_likelyOf_57 : decode cX12_likelyOf 57 = .ok (.getfield 32, 3) := by decide +kernel
theorem dX12_likelyOf_60 : decode cX12_likelyOf 60 = .ok (.iload 4, 2) := by decide +kernel
theorem dX12_likelyOf_62 : decode cX12_likelyOf 62 = .ok (.iaload, 1) := by decide +kernel
theorem dX12_likelyOf_63 : decode cX12_likelyOf 63 = .ok (.iload_n 2, 1) := by decide +kernel
theorem dX12_likelyOf_64 : decode cX12_likelyOf 64 = .ok (.if_icmp .ne 7, 3) := by decide +kernel
theorem dX12_likelyOf_67 : decode cX12_likelyOf 67 = .ok (.iconst 4, 1) := by decide +kernel
theorem dX12_likelyOf_68 : decode cX12_likelyOf 68 = .ok (.goto 4, 3) := by decide +kernel
theorem dX12_likelyOf_71 : decode cX12_likelyOf 71 = .ok (.iconst 0, 1) := by decide +kernel
theorem dX12_likelyOf_72 : decode cX12_likelyOf 72 = .ok (.iadd, 1) := by decide +kernel
theorem dX12_likelyOf_73 : decode cX12_likelyOf 73 = .ok (.istore_n 3, 1) := by decide +kernel
theorem dX12_likelyOf_74 : decode cX12_likelyOf 74 = .ok (.iload_n 3, 1) := by decide +kernel
theorem dX12_likelyOf_75 : decode cX12_likelyOf 75 = .ok (.iload 5, 2) := by decide +kernel
theorem dX12_likelyOf_77 : decode cX12_likelyOf 77 = .ok (.bipush (-9), 2) := by decide +kernel
theorem dX12_likelyOf_79 : decode cX12_likelyOf 79 = .ok (.if_icmp .eq 18, 3) := by decide +kernel
theorem dX12_likelyOf_82 : decode cX12_likelyOf 82 = .ok (.aload_n 0, 1) := by decide +kernel
theorem dX12_likelyOf_83 : decode cX12_likelyOf 83 = .ok (.getfield 32, 3) := by decide +kernel
theorem dX12_likelyOf_86 : decode cX12_likelyOf 86 = .ok (.iload 5, 2) := by decide +kernel
theorem dX12_likelyOf_88 : decode cX12_likelyOf 88 = .ok (.iaload, 1) := by decide +kernel
theorem dX12_likelyOf_89 : decode cX12_likelyOf 89 = .ok (.iload_n 2, 1) := by decide +kernel
theorem dX12_likelyOf_90 : decode cX12_likelyOf 90 = .ok (.if_icmp .ne 7, 3) := by decide +kernel
theorem dX12_likelyOf_93 : decode cX12_likelyOf 93 = .ok (.iconst 4, 1) := by decide +kernel
theorem dX12_likelyOf_94 : decode cX12_likelyOf 94 = .ok (.goto 4, 3) := by decide +kernel
theorem dX12_likelyOf_97 : decode cX12_likelyOf 97 = .ok (.iconst 0, 1) := by decide +kernel
theorem dX12_likelyOf_98 : decode cX12_likelyOf 98 = .ok (.iadd, 1) := by decide +kernel
theorem dX12_likelyOf_99 : decode cX12_likelyOf 99 = .ok (.istore_n 3, 1) := by decide +kernel
theorem dX12_likelyOf_100 : decode cX12_likelyOf 100 = .ok (.aload_n 0, 1) := by decide +kernel
theorem dX12_likelyOf_101 : decode cX12_likelyOf 101 = .ok (.iload_n 1, 1) := by decide +kernel
theorem dX12_likelyOf_102 : decode cX12_likelyOf 102 = .ok (.invokevirtual 356, 3) := by decide +kernel
theorem dX12_likelyOf_105 : decode cX12_likelyOf 105 = .ok (.istore 6, 2) := by decide +kernel
theorem dX12_likelyOf_107 : decode cX12_likelyOf 107 = .ok (.iconst 0, 1) := by decide +kernel
theorem dX12_likelyOf_108 : decode cX12_likelyOf 108 = .ok (.istore 7, 2) := by decide +kernel
theorem dX12_likelyOf_110 : decode cX12_likelyOf 110 = .ok (.iload 7, 2) := by decide +kernel
theorem dX12_likelyOf_112 : decode cX12_likelyOf 112 = .ok (.aload_n 0, 1) := by decide +kernel
theorem dX12_likelyOf_113 : decode cX12_likelyOf 113 = .ok (.getfield 206, 3) := by decide +kernel
theorem dX12_likelyOf_116 : decode cX12_likelyOf 116 = .ok (.if_icmp .ge 79, 3) := by decide +kernel
theorem dX12_likelyOf_119 : decode cX12_likelyOf 119 = .ok (.iload 7, 2) := by decide +kernel
theorem dX12_likelyOf_121 : decode cX12_likelyOf 121 = .ok (.iload_n 1, 1) := by decide +kernel
theorem dX12_likelyOf_122 : decode cX12_likelyOf 122 = .ok (.if_icmp .eq 67, 3) := by decide +kernel
theorem dX12_likelyOf_125 : decode cX12_likelyOf 125 = .ok (.aload_n 0, 1) := by decide +kernel
theorem dX12_likelyOf_126 : decode cX12_likelyOf 126 = .ok (.getfield 32, 3) := by decide +kernel
theorem dX12_likelyOf_129 : decode cX12_likelyOf 129 = .ok (.iload 7, 2) := by decide +kernel
theorem dX12_likelyOf_131 : decode cX12_likelyOf 131 = .ok (.iaload, 1) := by decide +kernel
theorem dX12_likelyOf_132 : decode cX12_likelyOf 132 = .ok (.iload_n 2, 1) := by decide +kernel
theorem dX12_likelyOf_133 : decode cX12_likelyOf 133 = .ok (.if_icmp .ne 56, 3) := by decide +kernel
theorem dX12_likelyOf_136 : decode cX12_likelyOf 136 = .ok (.iload_n 3, 1) := by decide +kernel
theorem dX12_likelyOf_137 : decode cX12_likelyOf 137 = .ok (.aload_n 0, 1) := by decide +kernel
theorem dX12_likelyOf_138 : decode cX12_likelyOf 138 = .ok (.getfield 29, 3) := by decide +kernel
theorem dX12_likelyOf_141 : decode cX12_likelyOf 141 = .ok (.iload_n 1, 1) := by decide +kernel
theorem dX12_likelyOf_142 : decode cX12_likelyOf 142 = .ok (.iaload, 1) := by decide +kernel
theorem dX12_likelyOf_143 : decode cX12_likelyOf 143 = .ok (.aload_n 0, 1) := by decide +kernel
theorem dX12_likelyOf_144 : decode cX12_likelyOf 144 = .ok (.getfield 29, 3) := by decide +kernel
theorem dX12_likelyOf_147 : decode cX12_likelyOf 147 = .ok (.iload 7, 2) := by decide +kernel
theorem dX12_likelyOf_149 : decode cX12_likelyOf 149 = .ok (.iaload, 1) := by decide +kernel
theorem dX12_likelyOf_150 : decode cX12_likelyOf 150 = .ok (.invokestatic 359, 3) := by decide +kernel
theorem dX12_likelyOf_153 : decode cX12_likelyOf 153 = .ok (.ifCond .eq 7, 3) := by decide +kernel
theorem dX12_likelyOf_156 : decode cX12_likelyOf 156 = .ok (.iconst 3, 1) := by decide +kernel
theorem dX12_likelyOf_157 : decode cX12_likelyOf 157 = .ok (.goto 4, 3) := by decide +kernel
theorem dX12_likelyOf_160 : decode cX12_likelyOf 160 = .ok (.iconst 0, 1) := by decide +kernel
theorem dX12_likelyOf_161 : decode cX12_likelyOf 161 = .ok (.iadd, 1) := by decide +kernel
theorem dX12_likelyOf_162 : decode cX12_likelyOf 162 = .ok (.istore_n 3, 1) := by decide +kernel
theorem dX12_likelyOf_163 : decode cX12_likelyOf 163 = .ok (.iload_n 3, 1) := by decide +kernel
theorem dX12_likelyOf_164 : decode cX12_likelyOf 164 = .ok (.iload 6, 2) := by decide +kernel
theorem dX12_likelyOf_166 : decode cX12_likelyOf 166 = .ok (.bipush (-9), 2) := by decide +kernel
theorem dX12_likelyOf_168 : decode cX12_likelyOf 168 = .ok (.if_icmp .eq 18, 3) := by decide +kernel
theorem dX12_likelyOf_171 : decode cX12_likelyOf 171 = .ok (.aload_n 0, 1) := by decide +kernel
theorem dX12_likelyOf_172 : decode cX12_likelyOf 172 = .ok (.iload 6, 2) := by decide +kernel
theorem dX12_likelyOf_174 : decode cX12_likelyOf 174 = .ok (.iload 7, 2) := by decide +kernel
theorem dX12_likelyOf_176 : decode cX12_likelyOf 176 = .ok (.invokevirtual 363, 3) := by decide +kernel
theorem dX12_likelyOf_179 : decode cX12_likelyOf 179 = .ok (.ifCond .eq 7, 3) := by decide +kernel
theorem dX12_likelyOf_182 : decode cX12_likelyOf 182 = .ok (.iconst 2, 1) := by decide +kernel
theorem dX12_likelyOf_183 : decode cX12_likelyOf 183 = .ok (.goto 4, 3) := by decide +kernel
theorem dX12_likelyOf_186 : decode cX12_likelyOf 186 = .ok (.iconst 0, 1) := by decide +kernel
theorem dX12_likelyOf_187 : decode cX12_likelyOf 187 = .ok (.iadd, 1) := by decide +kernel
theorem dX12_likelyOf_188 : decode cX12_likelyOf 188 = .ok (.istore_n 3, 1) := by decide +kernel
theorem dX12_likelyOf_189 : decode cX12_likelyOf 189 = .ok (.iinc 7 1, 3) := by decide +kernel
theorem dX12_likelyOf_192 : decode cX12_likelyOf 192 = .ok (.goto (-82), 3) := by decide +kernel
theorem dX12_likelyOf_195 : decode cX12_likelyOf 195 = .ok (.iload_n 3, 1) := by decide +kernel
theorem dX12_likelyOf_196 : decode cX12_likelyOf 196 = .ok (.ireturn, 1) := by decide +kernel
theorem dX12_likely_0 : decode cX12_likely 0 = .ok (.aload_n 0, 1) := by decide +kernel
theorem dX12_likely_1 : decode cX12_likely 1 = .ok (.iload_n 1, 1) := by decide +kernel
theorem dX12_likely_2 : decode cX12_likely 2 = .ok (.invokevirtual 236, 3) := by decide +kernel
theorem dX12_likely_5 : decode cX12_likely 5 = .ok (.ifCond .eq 19, 3) := by decide +kernel
theorem dX12_likely_8 : decode cX12_likely 8 = .ok (.iload_n 2, 1) := by decide +kernel
theorem dX12_likely_9 : decode cX12_likely 9 = .ok (.invokestatic 230, 3) := by decide +kernel
theorem dX12_likely_12 : decode cX12_likely 12 = .ok (.ifCond .eq 12, 3) := by decide +kernel
theorem dX12_likely_15 : decode cX12_likely 15 = .ok (.aload_n 0, 1) := by decide +kernel
theorem dX12_likely_16 : decode cX12_likely 16 = .ok (.iload_n 1, 1) := by decide +kernel
theorem dX12_likely_17 : decode cX12_likely 17 = .ok (.iload_n 2, 1) := by decide +kernel
theorem dX12_likely_18 : decode cX12_likely 18 = .ok (.invokevirtual 366, 3) := by decide +kernel
theorem dX12_likely_21 : decode cX12_likely 21 = .ok (.goto 4, 3) := by decide +kernel
theorem dX12_likely_24 : decode cX12_likely 24 = .ok (.iconst (-1), 1) := by decide +kernel
theorem dX12_likely_25 : decode cX12_likely 25 = .ok (.ireturn, 1) := by decide +kernel
theorem dX12_search_0 : decode cX12_search 0 = .ok (.aload_n 0, 1) := by decide +kernel
theorem dX12_search_1 : decode cX12_search 1 = .ok (.iload_n 1, 1) := by decide +kernel
theorem dX12_search_2 : decode cX12_search 2 = .ok (.invokevirtual 236, 3) := by decide +kernel
theorem dX12_search_5 : decode cX12_search 5 = .ok (.ifCond .eq 21, 3) := by decide +kernel
theorem dX12_search_8 : decode cX12_search 8 = .ok (.iload_n 2, 1) := by decide +kernel
theorem dX12_search_9 : decode cX12_search 9 = .ok (.invokestatic 178, 3) := by decide +kernel
theorem dX12_search_12 : decode cX12_search 12 = .ok (.ifCond .eq 14, 3) := by decide +kernel
theorem dX12_search_15 : decode cX12_search 15 = .ok (.iload_n 3, 1) := by decide +kernel
theorem dX12_search_16 : decode cX12_search 16 = .ok (.iconst 0, 1) := by decide +kernel
theorem dX12_search_17 : decode cX12_search 17 = .ok (.sipush 480, 3) := by decide +kernel
theorem dX12_search_20 : decode cX12_search 20 = .ok (.invokestatic 168, 3) := by decide +kernel
theorem dX12_search_23 : decode cX12_search 23 = .ok (.ifCond .ne 5, 3) := by decide +kernel
theorem dX12_search_26 : decode cX12_search 26 = .ok (.iconst (-1), 1) := by decide +kernel
theorem dX12_search_27 : decode cX12_search 27 = .ok (.ireturn, 1) := by decide +kernel
theorem dX12_search_28 : decode cX12_search 28 = .ok (.aload_n 0, 1) := by decide +kernel
theorem dX12_search_29 : decode cX12_search 29 = .ok (.getfield 13, 3) := by decide +kernel
theorem dX12_search_32 : decode cX12_search 32 = .ok (.iload_n 2, 1) := by decide +kernel
theorem dX12_search_33 : decode cX12_search 33 = .ok (.iaload, 1) := by decide +kernel
theorem dX12_search_34 : decode cX12_search 34 = .ok (.ifCond .ge 9, 3) := by decide +kernel
theorem dX12_search_37 : decode cX12_search 37 = .ok (.aload_n 0, 1) := by decide +kernel
theorem dX12_search_38 : decode cX12_search 38 = .ok (.iconst 1, 1) := by decide +kernel
theorem dX12_search_39 : decode cX12_search 39 = .ok (.invokevirtual 182, 3) := by decide +kernel
theorem dX12_search_42 : decode cX12_search 42 = .ok (.ireturn, 1) := by decide +kernel
theorem dX12_search_43 : decode cX12_search 43 = .ok (.aload_n 0, 1) := by decide +kernel
theorem dX12_search_44 : decode cX12_search 44 = .ok (.getfield 13, 3) := by decide +kernel
theorem dX12_search_47 : decode cX12_search 47 = .ok (.iload_n 2, 1) := by decide +kernel
theorem dX12_search_48 : decode cX12_search 48 = .ok (.iaload, 1) := by decide +kernel
theorem dX12_search_49 : decode cX12_search 49 = .ok (.bipush 8, 2) := by decide +kernel
theorem dX12_search_51 : decode cX12_search 51 = .ok (.if_icmp .eq 9, 3) := by decide +kernel
theorem dX12_search_54 : decode cX12_search 54 = .ok (.aload_n 0, 1) := by decide +kernel
theorem dX12_search_55 : decode cX12_search 55 = .ok (.iconst 5, 1) := by decide +kernel
theorem dX12_search_56 : decode cX12_search 56 = .ok (.invokevirtual 182, 3) := by decide +kernel
theorem dX12_search_59 : decode cX12_search 59 = .ok (.ireturn, 1) := by decide +kernel
theorem dX12_search_60 : decode cX12_search 60 = .ok (.iconst 1, 1) := by decide +kernel
theorem dX12_search_61 : decode cX12_search 61 = .ok (.istore 4, 2) := by decide +kernel
theorem dX12_search_63 : decode cX12_search 63 = .ok (.iconst 0, 1) := by decide +kernel
theorem dX12_search_64 : decode cX12_search 64 = .ok (.istore 5, 2) := by decide +kernel
theorem dX12_search_66 : decode cX12_search 66 = .ok (.iload 5, 2) := by decide +kernel
theorem dX12_search_68 : decode cX12_search 68 = .ok (.bipush 8, 2) := by decide +kernel
theorem dX12_search_70 : decode cX12_search 70 = .ok (.if_icmp .ge 37, 3) := by decide +kernel
theorem dX12_search_73 : decode cX12_search 73 = .ok (.iload 4, 2) := by decide +kernel
theorem dX12_search_75 : decode cX12_search 75 = .ok (.ifCond .eq 23, 3) := by decide +kernel
theorem dX12_search_78 : decode cX12_search 78 = .ok (.aload_n 0, 1) := by decide +kernel
theorem dX12_search_79 : decode cX12_search 79 = .ok (.iload_n 2, 1) := by decide +kernel
theorem dX12_search_80 : decode cX12_search 80 = .ok (.iload 5, 2) := by decide +kernel
theorem dX12_search_82 : decode cX12_search 82 = .ok (.invokevirtual 186, 3) := by decide +kernel
theorem dX12_search_85 : decode cX12_search 85 = .ok (.iconst 1, 1) := by decide +kernel
theorem dX12_search_86 : decode cX12_search 86 = .ok (.bipush 60, 2) := by decide +kernel
theorem dX12_search_88 : decode cX12_search 88 = .ok (.invokestatic 168, 3) := by decide +kernel
theorem dX12_search_91 : decode cX12_search 91 = .ok (.ifCond .eq 7, 3) := by decide +kernel
theorem dX12_search_94 : decode cX12_search 94 = .ok (.iconst 1, 1) := by decide +kernel
theorem dX12_search_95 : decode cX12_search 95 = .ok (.goto 4, 3) := by decide +kernel
theorem dX12_search_98 : decode cX12_search 98 = .ok (.iconst 0, 1) := by decide +kernel
theorem dX12_search_99 : decode cX12_search 99 = .ok (.istore 4, 2) := by decide +kernel
theorem dX12_search_101 : decode cX12_search 101 = .ok (.iinc 5 1, 3) := by decide +kernel
theorem dX12_search_104 : decode cX12_search 104 = .ok (.goto (-38), 3) := by decide +kernel
theorem dX12_search_107 : decode cX12_search 107 = .ok (.iload 4, 2) := by decide +kernel
theorem dX12_search_109 : decode cX12_search 109 = .ok (.ifCond .ne 9, 3) := by decide +kernel
theorem dX12_search_112 : decode cX12_search 112 = .ok (.aload_n 0, 1) := by decide +kernel
theorem dX12_search_113 : decode cX12_search 113 = .ok (.iconst 3, 1) := by decide +kernel
theorem dX12_search_114 : decode cX12_search 114 = .ok (.invokevirtual 182, 3) := by decide +kernel
theorem dX12_search_117 : decode cX12_search 117 = .ok (.ireturn, 1) := by decide +kernel
theorem dX12_search_118 : decode cX12_search 118 = .ok (.iconst 0, 1) := by decide +kernel
theorem dX12_search_119 : decode cX12_search 119 = .ok (.istore 5, 2) := by decide +kernel
theorem dX12_search_121 : decode cX12_search 121 = .ok (.iconst 0, 1) := by decide +kernel
theorem dX12_search_122 : decode cX12_search 122 = .ok (.istore 6, 2) := by decide +kernel
theorem dX12_search_124 : decode cX12_search 124 = .ok (.iconst 0, 1) := by decide +kernel
theorem dX12_search_125 : decode cX12_search 125 = .ok (.istore 7, 2) := by decide +kernel
theorem dX12_search_127 : decode cX12_search 127 = .ok (.iconst 1, 1) := by decide +kernel
theorem dX12_search_128 : decode cX12_search 128 = .ok (.istore 8, 2) := by decide +kernel
theorem dX12_search_130 : decode cX12_search 130 = .ok (.iload 8, 2) := by decide +kernel
theorem dX12_search_132 : decode cX12_search 132 = .ok (.sipush 256, 3) := by decide +kernel
theorem dX12_search_135 : decode cX12_search 135 = .ok (.if_icmp .ge 130, 3) := by decide +kernel
theorem dX12_search_138 : decode cX12_search 138 = .ok (.iconst 0, 1) := by decide +kernel
theorem dX12_search_139 : decode cX12_search 139 = .ok (.istore 9, 2) := by decide +kernel
theorem dX12_search_141 : decode cX12_search 141 = .ok (.iconst 0, 1) := by decide +kernel
theorem dX12_search_142 : decode cX12_search 142 = .ok (.istore 10, 2) := by decide +kernel
theorem dX12_search_144 : decode cX12_search 144 = .ok (.iconst 0, 1) := by decide +kernel
theorem dX12_search_145 : decode cX12_search 145 = .ok (.istore 11, 2) := by decide +kernel
theorem dX12_search_147 : decode cX12_search 147 = .ok (.iload 11, 2) := by decide +kernel
theorem dX12_search_149 : decode cX12_search 149 = .ok (.bipush 8, 2) := by decide +kernel
theorem dX12_search_151 : decode cX12_search 151 = .ok (.if_icmp .ge 69, 3) := by decide +kernel
theorem dX12_search_154 : decode cX12_search 154 = .ok (.iload 8, 2) := by decide +kernel
theorem dX12_search_156 : decode cX12_search 156 = .ok (.iload 11, 2) := by decide +kernel
theorem dX12_search_158 : decode cX12_search 158 = .ok (.ishr, 1) := by decide +kernel
theorem dX12_search_159 : decode cX12_search 159 = .ok (.iconst 1, 1) := by decide +kernel
theorem dX12_search_160 : decode cX12_search 160 = .ok (.iand, 1) := by decide +kernel
theorem dX12_search_161 : decode cX12_search 161 = .ok (.iconst 1, 1) := by decide +kernel
theorem dX12_search_162 : decode cX12_search 162 = .ok (.if_icmp .ne 7, 3) := by decide +kernel
theorem dX12_search_165 : decode cX12_search 165 = .ok (.iconst 1, 1) := by decide +kernel
theorem dX12_search_166 : decode cX12_search 166 = .ok (.goto 4, 3) := by decide +kernel
theorem dX12_search_169 : decode cX12_search 169 = .ok (.iconst 0, 1) := by decide +kernel
theorem dX12_search_170 : decode cX12_search 170 = .ok (.istore 12, 2) := by decide +kernel
theorem dX12_search_172 : decode cX12_search 172 = .ok (.iload 9, 2) := by decide +kernel
theorem dX12_search_174 : decode cX12_search 174 = .ok (.iload 12, 2) := by decide +kernel
theorem dX12_search_176 : decode cX12_search 176 = .ok (.ifCond .eq 13, 3) := by decide +kernel
theorem dX12_search_179 : decode cX12_search 179 = .ok (.aload_n 0, 1) := by decide +kernel
theorem dX12_search_180 : decode cX12_search 180 = .ok (.iload_n 2, 1) := by decide +kernel
theorem dX12_search_181 : decode cX12_search 181 = .ok (.iload 11, 2) := by decide +kernel
theorem dX12_search_183 : decode cX12_search 183 = .ok (.invokevirtual 186, 3) := by decide +kernel
theorem dX12_search_186 : decode cX12_search 186 = .ok (.goto 4, 3) := by decide +kernel
theorem dX12_search_189 : decode cX12_search 189 = .ok (.iconst 0, 1) := by decide +kernel
theorem dX12_search_190 : decode cX12_search 190 = .ok (.iadd, 1) := by decide +kernel
theorem dX12_search_191 : decode cX12_search 191 = .ok (.istore 9, 2) := by decide +kernel
theorem dX12_search_193 : decode cX12_search 193 = .ok (.iload 10, 2) := by decide +kernel
theorem dX12_search_195 : decode cX12_search 195 = .ok (.iload 12, 2) := by decide +kernel
theorem dX12_search_197 : decode cX12_search 197 = .ok (.ifCond .eq 13, 3) := by decide +kernel
theorem dX12_search_200 : decode cX12_search 200 = .ok (.aload_n 0, 1) := by decide +kernel
theorem dX12_search_201 : decode cX12_search 201 = .ok (.iload_n 1, 1) := by decide +kernel
theorem dX12_search_202 : decode cX12_search 202 = .ok (.iload 11, 2) := by decide +kernel
theorem dX12_search_204 : decode cX12_search 204 = .ok (.invokevirtual 366, 3) := by decide +kernel
theorem dX12_search_207 : decode cX12_search 207 = .ok (.goto 4, 3) := by decide +kernel
theorem dX12_search_210 : decode cX12_search 210 = .ok (.iconst 0, 1) := by decide +kernel
theorem dX12_search_211 : decode cX12_search 211 = .ok (.iadd, 1) := by decide +kernel
theorem dX12_search_212 : decode cX12_search 212 = .ok (.istore 10, 2) := by decide +kernel
theorem dX12_search_214 : decode cX12_search 214 = .ok (.iinc 11 1, 3) := by decide +kernel
theorem dX12_search_217 : decode cX12_search 217 = .ok (.goto (-70), 3) := by decide +kernel
theorem dX12_search_220 : decode cX12_search 220 = .ok (.iload 9, 2) := by decide +kernel
theorem dX12_search_222 : decode cX12_search 222 = .ok (.iload_n 3, 1) := by decide +kernel
theorem dX12_search_223 : decode cX12_search 223 = .ok (.if_icmp .gt 36, 3) := by decide +kernel
theorem dX12_search_226 : decode cX12_search 226 = .ok (.iload 10, 2) := by decide +kernel
theorem dX12_search_228 : decode cX12_search 228 = .ok (.iload 6, 2) := by decide +kernel
theorem dX12_search_230 : decode cX12_search 230 = .ok (.if_icmp .gt 17, 3) := by decide +kernel
theorem dX12_search_233 : decode cX12_search 233 = .ok (.iload 10, 2) := by decide +kernel
theorem dX12_search_235 : decode cX12_search 235 = .ok (.iload 6, 2) := by decide +kernel
theorem dX12_search_237 : decode cX12_search 237 = .ok (.if_icmp .ne 22, 3) := by decide +kernel
theorem dX12_search_240 : decode cX12_search 240 = .ok (.iload 9, 2) := by decide +kernel
theorem dX12_search_242 : decode cX12_search 242 = .ok (.iload 7, 2) := by decide +kernel
theorem dX12_search_244 : decode cX12_search 244 = .ok (.if_icmp .ge 15, 3) := by decide +kernel
theorem dX12_search_247 : decode cX12_search 247 = .ok (.iload 8, 2) := by decide +kernel
theorem dX12_search_249 : decode cX12_search 249 = .ok (.istore 5, 2) := by decide +kernel
theorem dX12_search_251 : decode cX12_search 251 = .ok (.iload 10, 2) := by decide +kernel
theorem dX12_search_253 : decode cX12_search 253 = .ok (.istore 6, 2) := by decide +kernel
theorem dX12_search_255 : decode cX12_search 255 = .ok (.iload 9, 2) := by decide +kernel
theorem dX12_search_257 : decode cX12_search 257 = .ok (.istore 7, 2) := by decide +kernel
theorem dX12_search_259 : decode cX12_search 259 = .ok (.iinc 8 1, 3) := by decide +kernel
theorem dX12_search_262 : decode cX12_search 262 = .ok (.goto (-132), 3) := by decide +kernel
theorem dX12_search_265 : decode cX12_search 265 = .ok (.aload_n 0, 1) := by decide +kernel
theorem dX12_search_266 : decode cX12_search 266 = .ok (.iload 6, 2) := by decide +kernel
theorem dX12_search_268 : decode cX12_search 268 = .ok (.iload 5, 2) := by decide +kernel
theorem dX12_search_270 : decode cX12_search 270 = .ok (.invokevirtual 190, 3) := by decide +kernel
theorem dX12_search_273 : decode cX12_search 273 = .ok (.ireturn, 1) := by decide +kernel
theorem dX12_wrong_0 : decode cX12_wrong 0 = .ok (.aload_n 0, 1) := by decide +kernel
theorem dX12_wrong_1 : decode cX12_wrong 1 = .ok (.getfield 346, 3) := by decide +kernel
theorem dX12_wrong_4 : decode cX12_wrong 4 = .ok (.ifCond .ne 9, 3) := by decide +kernel
theorem dX12_wrong_7 : decode cX12_wrong 7 = .ok (.aload_n 0, 1) := by decide +kernel
theorem dX12_wrong_8 : decode cX12_wrong 8 = .ok (.iconst 4, 1) := by decide +kernel
theorem dX12_wrong_9 : decode cX12_wrong 9 = .ok (.invokevirtual 182, 3) := by decide +kernel
theorem dX12_wrong_12 : decode cX12_wrong 12 = .ok (.ireturn, 1) := by decide +kernel
theorem dX12_wrong_13 : decode cX12_wrong 13 = .ok (.aload_n 0, 1) := by decide +kernel
theorem dX12_wrong_14 : decode cX12_wrong 14 = .ok (.getfield 349, 3) := by decide +kernel
theorem dX12_wrong_17 : decode cX12_wrong 17 = .ok (.aload_n 0, 1) := by decide +kernel
theorem dX12_wrong_18 : decode cX12_wrong 18 = .ok (.getfield 206, 3) := by decide +kernel
theorem dX12_wrong_21 : decode cX12_wrong 21 = .ok (.imul, 1) := by decide +kernel
theorem dX12_wrong_22 : decode cX12_wrong 22 = .ok (.istore_n 1, 1) := by decide +kernel
theorem dX12_wrong_23 : decode cX12_wrong 23 = .ok (.iload_n 1, 1) := by decide +kernel
theorem dX12_wrong_24 : decode cX12_wrong 24 = .ok (.istore_n 2, 1) := by decide +kernel
theorem dX12_wrong_25 : decode cX12_wrong 25 = .ok (.aload_n 0, 1) := by decide +kernel
theorem dX12_wrong_26 : decode cX12_wrong 26 = .ok (.getfield 346, 3) := by decide +kernel
theorem dX12_wrong_29 : decode cX12_wrong 29 = .ok (.istore_n 3, 1) := by decide +kernel
theorem dX12_wrong_30 : decode cX12_wrong 30 = .ok (.iload_n 3, 1) := by decide +kernel
theorem dX12_wrong_31 : decode cX12_wrong 31 = .ok (.ifCond .eq 16, 3) := by decide +kernel
theorem dX12_wrong_34 : decode cX12_wrong 34 = .ok (.iload_n 2, 1) := by decide +kernel
theorem dX12_wrong_35 : decode cX12_wrong 35 = .ok (.iload_n 3, 1) := by decide +kernel
theorem dX12_wrong_36 : decode cX12_wrong 36 = .ok (.irem, 1) := by decide +kernel
theorem dX12_wrong_37 : decode cX12_wrong 37 = .ok (.istore 4, 2) := by decide +kernel
theorem dX12_wrong_39 : decode cX12_wrong 39 = .ok (.iload_n 3, 1) := by decide +kernel
theorem dX12_wrong_40 : decode cX12_wrong 40 = .ok (.istore_n 2, 1) := by decide +kernel
theorem dX12_wrong_41 : decode cX12_wrong 41 = .ok (.iload 4, 2) := by decide +kernel
theorem dX12_wrong_43 : decode cX12_wrong 43 = .ok (.istore_n 3, 1) := by decide +kernel
theorem dX12_wrong_44 : decode cX12_wrong 44 = .ok (.goto (-14), 3) := by decide +kernel
theorem dX12_wrong_47 : decode cX12_wrong 47 = .ok (.aload_n 0, 1) := by decide +kernel
theorem dX12_wrong_48 : decode cX12_wrong 48 = .ok (.iload_n 1, 1) := by decide +kernel
theorem dX12_wrong_49 : decode cX12_wrong 49 = .ok (.iload_n 2, 1) := by decide +kernel
theorem dX12_wrong_50 : decode cX12_wrong 50 = .ok (.idiv, 1) := by decide +kernel
theorem dX12_wrong_51 : decode cX12_wrong 51 = .ok (.i2l, 1) := by decide +kernel
theorem dX12_wrong_52 : decode cX12_wrong 52 = .ok (.putfield 175, 3) := by decide +kernel
theorem dX12_wrong_55 : decode cX12_wrong 55 = .ok (.aload_n 0, 1) := by decide +kernel
theorem dX12_wrong_56 : decode cX12_wrong 56 = .ok (.aload_n 0, 1) := by decide +kernel
theorem dX12_wrong_57 : decode cX12_wrong 57 = .ok (.getfield 346, 3) := by decide +kernel
theorem dX12_wrong_60 : decode cX12_wrong 60 = .ok (.iload_n 2, 1) := by decide +kernel
theorem dX12_wrong_61 : decode cX12_wrong 61 = .ok (.idiv, 1) := by decide +kernel
theorem dX12_wrong_62 : decode cX12_wrong 62 = .ok (.i2l, 1) := by decide +kernel
theorem dX12_wrong_63 : decode cX12_wrong 63 = .ok (.putfield 160, 3) := by decide +kernel
theorem dX12_wrong_66 : decode cX12_wrong 66 = .ok (.aload_n 0, 1) := by decide +kernel
theorem dX12_wrong_67 : decode cX12_wrong 67 = .ok (.getfield 346, 3) := by decide +kernel
theorem dX12_wrong_70 : decode cX12_wrong 70 = .ok (.ireturn, 1) := by decide +kernel
theorem dX12_lookAt_0 : decode cX12_lookAt 0 = .ok (.iconst 0, 1) := by decide +kernel
theorem dX12_lookAt_1 : decode cX12_lookAt 1 = .ok (.istore_n 3, 1) := by decide +kernel
theorem dX12_lookAt_2 : decode cX12_lookAt 2 = .ok (.iconst 0, 1) := by decide +kernel
theorem dX12_lookAt_3 : decode cX12_lookAt 3 = .ok (.istore 4, 2) := by decide +kernel
theorem dX12_lookAt_5 : decode cX12_lookAt 5 = .ok (.iload 4, 2) := by decide +kernel
theorem dX12_lookAt_7 : decode cX12_lookAt 7 = .ok (.aload_n 0, 1) := by decide +kernel
theorem dX12_lookAt_8 : decode cX12_lookAt 8 = .ok (.getfield 307, 3) := by decide +kernel
theorem dX12_lookAt_11 : decode cX12_lookAt 11 = .ok (.if_icmp .ge 31, 3) := by decide +kernel
theorem dX12_lookAt_14 : decode cX12_lookAt 14 = .ok (.aload_n 0, 1) := by decide +kernel
theorem dX12_lookAt_15 : decode cX12_lookAt 15 = .ok (.getfield 102, 3) := by decide +kernel
theorem dX12_lookAt_18 : decode cX12_lookAt 18 = .ok (.iload 4, 2) := by decide +kernel
theorem dX12_lookAt_20 : decode cX12_lookAt 20 = .ok (.iaload, 1) := by decide +kernel
theorem dX12_lookAt_21 : decode cX12_lookAt 21 = .ok (.iload_n 1, 1) := by decide +kernel
theorem dX12_lookAt_22 : decode cX12_lookAt 22 = .ok (.if_icmp .ne 14, 3) := by decide +kernel
theorem dX12_lookAt_25 : decode cX12_lookAt 25 = .ok (.iload_n 3, 1) := by decide +kernel
theorem dX12_lookAt_26 : decode cX12_lookAt 26 = .ok (.iload_n 2, 1) := by decide +kernel
theorem dX12_lookAt_27 : decode cX12_lookAt 27 = .ok (.if_icmp .ne 6, 3) := by decide +kernel
theorem dX12_lookAt_30 : decode cX12_lookAt 30 = .ok (.iload 4, 2) := by decide +kernel
theorem dX12_lookAt_32 : decode cX12_lookAt 32 = .ok (.ireturn, 1) := by decide +kernel
theorem dX12_lookAt_33 : decode cX12_lookAt 33 = .ok (.iinc 3 1, 3) := by decide +kernel
theorem dX12_lookAt_36 : decode cX12_lookAt 36 = .ok (.iinc 4 1, 3) := by decide +kernel
theorem dX12_lookAt_39 : decode cX12_lookAt 39 = .ok (.goto (-34), 3) := by decide +kernel
theorem dX12_lookAt_42 : decode cX12_lookAt 42 = .ok (.bipush (-9), 2) := by decide +kernel
theorem dX12_lookAt_44 : decode cX12_lookAt 44 = .ok (.ireturn, 1) := by decide +kernel
theorem dX12_look_0 : decode cX12_look 0 = .ok (.aload_n 0, 1) := by decide +kernel
theorem dX12_look_1 : decode cX12_look 1 = .ok (.iload_n 1, 1) := by decide +kernel
theorem dX12_look_2 : decode cX12_look 2 = .ok (.invokevirtual 236, 3) := by decide +kernel
theorem dX12_look_5 : decode cX12_look 5 = .ok (.ifCond .eq 12, 3) := by decide +kernel
theorem dX12_look_8 : decode cX12_look 8 = .ok (.iload_n 3, 1) := by decide +kernel
theorem dX12_look_9 : decode cX12_look 9 = .ok (.iconst 0, 1) := by decide +kernel
theorem dX12_look_10 : decode cX12_look 10 = .ok (.iconst 1, 1) := by decide +kernel
theorem dX12_look_11 : decode cX12_look 11 = .ok (.invokestatic 168, 3) := by decide +kernel
theorem dX12_look_14 : decode cX12_look 14 = .ok (.ifCond .ne 5, 3) := by decide +kernel
theorem dX12_look_17 : decode cX12_look 17 = .ok (.iconst (-1), 1) := by decide +kernel
theorem dX12_look_18 : decode cX12_look 18 = .ok (.ireturn, 1) := by decide +kernel
theorem dX12_look_19 : decode cX12_look 19 = .ok (.aload_n 0, 1) := by decide +kernel
theorem dX12_look_20 : decode cX12_look 20 = .ok (.iload_n 1, 1) := by decide +kernel
theorem dX12_look_21 : decode cX12_look 21 = .ok (.iload_n 2, 1) := by decide +kernel
theorem dX12_look_22 : decode cX12_look 22 = .ok (.invokevirtual 369, 3) := by decide +kernel
theorem dX12_look_25 : decode cX12_look 25 = .ok (.istore 4, 2) := by decide +kernel
theorem dX12_look_27 : decode cX12_look 27 = .ok (.iload 4, 2) := by decide +kernel
theorem dX12_look_29 : decode cX12_look 29 = .ok (.bipush (-9), 2) := by decide +kernel
theorem dX12_look_31 : decode cX12_look 31 = .ok (.if_icmp .ne 8, 3) := by decide +kernel
theorem dX12_look_34 : decode cX12_look 34 = .ok (.bipush (-9), 2) := by decide +kernel
theorem dX12_look_36 : decode cX12_look 36 = .ok (.goto 24, 3) := by decide +kernel
theorem dX12_look_39 : decode cX12_look 39 = .ok (.iload_n 3, 1) := by decide +kernel
theorem dX12_look_40 : decode cX12_look 40 = .ok (.ifCond .ne 13, 3) := by decide +kernel
theorem dX12_look_43 : decode cX12_look 43 = .ok (.aload_n 0, 1) := by decide +kernel
theorem dX12_look_44 : decode cX12_look 44 = .ok (.getfield 105, 3) := by decide +kernel
theorem dX12_look_47 : decode cX12_look 47 = .ok (.iload 4, 2) := by decide +kernel
theorem dX12_look_49 : decode cX12_look 49 = .ok (.iaload, 1) := by decide +kernel
theorem dX12_look_50 : decode cX12_look 50 = .ok (.goto 10, 3) := by decide +kernel
theorem dX12_look_53 : decode cX12_look 53 = .ok (.aload_n 0, 1) := by decide +kernel
theorem dX12_look_54 : decode cX12_look 54 = .ok (.getfield 108, 3) := by decide +kernel
theorem dX12_look_57 : decode cX12_look 57 = .ok (.iload 4, 2) := by decide +kernel
theorem dX12_look_59 : decode cX12_look 59 = .ok (.iaload, 1) := by decide +kernel
theorem dX12_look_60 : decode cX12_look 60 = .ok (.ireturn, 1) := by decide +kernel
theorem dX12_blockCost_0 : decode cX12_blockCost 0 = .ok (.lconst 0, 1) := by decide +kernel
theorem dX12_blockCost_1 : decode cX12_blockCost 1 = .ok (.lstore 6, 2) := by decide +kernel
theorem dX12_blockCost_3 : decode cX12_blockCost 3 = .ok (.iload_n 3, 1) := by decide +kernel
theorem dX12_blockCost_4 : decode cX12_blockCost 4 = .ok (.istore 8, 2) := by decide +kernel
theorem dX12_blockCost_6 : decode cX12_blockCost 6 = .ok (.iload 8, 2) := by decide +kernel
theorem dX12_blockCost_8 : decode cX12_blockCost 8 = .ok (.iload 4, 2) := by decide +kernel
theorem dX12_blockCost_10 : decode cX12_blockCost 10 = .ok (.if_icmp .ge 38, 3) := by decide +kernel
theorem dX12_blockCost_13 : decode cX12_blockCost 13 = .ok (.lload 6, 2) := by decide +kernel
theorem dX12_blockCost_15 : decode cX12_blockCost 15 = .ok (.aload_n 0, 1) := by decide +kernel
theorem dX12_blockCost_16 : decode cX12_blockCost 16 = .ok (.iload_n 2, 1) := by decide +kernel
theorem dX12_blockCost_17 : decode cX12_blockCost 17 = .ok (.iload 8, 2) := by decide +kernel
theorem dX12_blockCost_19 : decode cX12_blockCost 19 = .ok (.invokevirtual 186, 3) := by decide +kernel
theorem dX12_blockCost_22 : decode cX12_blockCost 22 = .ok (.iload 5, 2) := by decide +kernel
theorem dX12_blockCost_24 : decode cX12_blockCost 24 = .ok (.if_icmp .ne 7, 3) := by decide +kernel
theorem dX12_blockCost_27 : decode cX12_blockCost 27 = .ok (.lconst 0, 1) := by decide +kernel
theorem dX12_blockCost_28 : decode cX12_blockCost 28 = .ok (.goto 11, 3) := by decide +kernel
theorem dX12_blockCost_31 : decode cX12_blockCost 31 = .ok (.aload_n 0, 1) := by decide +kernel
theorem dX12_blockCost_32 : decode cX12_blockCost 32 = .ok (.iload_n 1, 1) := by decide +kernel
theorem dX12_blockCost_33 : decode cX12_blockCost 33 = .ok (.iload 8, 2) := by decide +kernel
theorem dX12_blockCost_35 : decode cX12_blockCost 35 = .ok (.invokevirtual 186, 3) := by decide +kernel
theorem dX12_blockCost_38 : decode cX12_blockCost 38 = .ok (.i2l, 1) := by decide +kernel
theorem dX12_blockCost_39 : decode cX12_blockCost 39 = .ok (.ladd, 1) := by decide +kernel
theorem dX12_blockCost_40 : decode cX12_blockCost 40 = .ok (.lstore 6, 2) := by decide +kernel
theorem dX12_blockCost_42 : decode cX12_blockCost 42 = .ok (.iinc 8 1, 3) := by decide +kernel
theorem dX12_blockCost_45 : decode cX12_blockCost 45 = .ok (.goto (-39), 3) := by decide +kernel
theorem dX12_blockCost_48 : decode cX12_blockCost 48 = .ok (.lload 6, 2) := by decide +kernel
theorem dX12_blockCost_50 : decode cX12_blockCost 50 = .ok (.lreturn, 1) := by decide +kernel
theorem dX12_hasRoom_0 : decode cX12_hasRoom 0 = .ok (.iconst 0, 1) := by decide +kernel
theorem dX12_hasRoom_1 : decode cX12_hasRoom 1 = .ok (.istore 6, 2) := by decide +kernel
theorem dX12_hasRoom_3 : decode cX12_hasRoom 3 = .ok (.iload_n 3, 1) := by decide +kernel
theorem dX12_hasRoom_4 : decode cX12_hasRoom 4 = .ok (.istore 7, 2) := by decide +kernel
theorem dX12_hasRoom_6 : decode cX12_hasRoom 6 = .ok (.iload 7, 2) := by decide +kernel
theorem dX12_hasRoom_8 : decode cX12_hasRoom 8 = .ok (.iload 4, 2) := by decide +kernel
theorem dX12_hasRoom_10 : decode cX12_hasRoom 10 = .ok (.if_icmp .ge 21, 3) := by decide +kernel
theorem dX12_hasRoom_13 : decode cX12_hasRoom 13 = .ok (.iload 6, 2) := by decide +kernel
theorem dX12_hasRoom_15 : decode cX12_hasRoom 15 = .ok (.aload_n 0, 1) := by decide +kernel
theorem dX12_hasRoom_16 : decode cX12_hasRoom 16 = .ok (.iload_n 1, 1) := by decide +kernel
theorem dX12_hasRoom_17 : decode cX12_hasRoom 17 = .ok (.iload 7, 2) := by decide +kernel
theorem dX12_hasRoom_19 : decode cX12_hasRoom 19 = .ok (.invokevirtual 186, 3) := by decide +kernel
theorem dX12_hasRoom_22 : decode cX12_hasRoom 22 = .ok (.iadd, 1) := by decide +kernel
theorem dX12_hasRoom_23 : decode cX12_hasRoom 23 = .ok (.istore 6, 2) := by decide +kernel
theorem dX12_hasRoom_25 : decode cX12_hasRoom 25 = .ok (.iinc 7 1, 3) := by decide +kernel
theorem dX12_hasRoom_28 : decode cX12_hasRoom 28 = .ok (.goto (-22), 3) := by decide +kernel
theorem dX12_hasRoom_31 : decode cX12_hasRoom 31 = .ok (.iload 6, 2) := by decide +kernel
theorem dX12_hasRoom_33 : decode cX12_hasRoom 33 = .ok (.aload_n 0, 1) := by decide +kernel
theorem dX12_hasRoom_34 : decode cX12_hasRoom 34 = .ok (.iload_n 2, 1) := by decide +kernel
theorem dX12_hasRoom_35 : decode cX12_hasRoom 35 = .ok (.iload 5, 2) := by decide +kernel
theorem dX12_hasRoom_37 : decode cX12_hasRoom 37 = .ok (.invokevirtual 186, 3) := by decide +kernel
theorem dX12_hasRoom_40 : decode cX12_hasRoom 40 = .ok (.if_icmp .gt 7, 3) := by decide +kernel
theorem dX12_hasRoom_43 : decode cX12_hasRoom 43 = .ok (.iconst 1, 1) := by decide +kernel
theorem dX12_hasRoom_44 : decode cX12_hasRoom 44 = .ok (.goto 4, 3) := by decide +kernel
theorem dX12_hasRoom_47 : decode cX12_hasRoom 47 = .ok (.iconst 0, 1) := by decide +kernel
theorem dX12_hasRoom_48 : decode cX12_hasRoom 48 = .ok (.ireturn, 1) := by decide +kernel
theorem dX12_layCosts_0 : decode cX12_layCosts 0 = .ok (.iconst 0, 1) := by decide +kernel
theorem dX12_layCosts_1 : decode cX12_layCosts 1 = .ok (.istore 5, 2) := by decide +kernel
theorem dX12_layCosts_3 : decode cX12_layCosts 3 = .ok (.iload 5, 2) := by decide +kernel
theorem dX12_layCosts_5 : decode cX12_layCosts 5 = .ok (.iload 4, 2) := by decide +kernel
theorem dX12_layCosts_7 : decode cX12_layCosts 7 = .ok (.if_icmp .gt 36, 3) := by decide +kernel
theorem dX12_layCosts_10 : decode cX12_layCosts 10 = .ok (.aload_n 0, 1) := by decide +kernel
theorem dX12_layCosts_11 : decode cX12_layCosts 11 = .ok (.getfield 147, 3) := by decide +kernel
theorem dX12_layCosts_14 : decode cX12_layCosts 14 = .ok (.bipush 9, 2) := by decide +kernel
theorem dX12_layCosts_16 : decode cX12_layCosts 16 = .ok (.iload 5, 2) := by decide +kernel
theorem dX12_layCosts_18 : decode cX12_layCosts 18 = .ok (.imul, 1) := by decide +kernel
theorem dX12_layCosts_19 : decode cX12_layCosts 19 = .ok (.bipush 8, 2) := by decide +kernel
theorem dX12_layCosts_21 : decode cX12_layCosts 21 = .ok (.iadd, 1) := by decide +kernel
theorem dX12_layCosts_22 : decode cX12_layCosts 22 = .ok (.iload 5, 2) := by decide +kernel
theorem dX12_layCosts_24 : decode cX12_layCosts 24 = .ok (.iload 4, 2) := by decide +kernel
theorem dX12_layCosts_26 : decode cX12_layCosts 26 = .ok (.if_icmp .ne 7, 3) := by decide +kernel
theorem dX12_layCosts_29 : decode cX12_layCosts 29 = .ok (.lconst 0, 1) := by decide +kernel
theorem dX12_layCosts_30 : decode cX12_layCosts 30 = .ok (.goto 6, 3) := by decide +kernel
theorem dX12_layCosts_33 : decode cX12_layCosts 33 = .ok (.ldc2_w 372, 3) := by decide +kernel
theorem dX12_layCosts_36 : decode cX12_layCosts 36 = .ok (.lastore, 1) := by decide +kernel
theorem dX12_layCosts_37 : decode cX12_layCosts 37 = .ok (.iinc 5 1, 3) := by decide +kernel
theorem dX12_layCosts_40 : decode cX12_layCosts 40 = .ok (.goto (-37), 3) := by decide +kernel
theorem dX12_layCosts_43 : decode cX12_layCosts 43 = .ok (.bipush 7, 2) := by decide +kernel
theorem dX12_layCosts_45 : decode cX12_layCosts 45 = .ok (.istore 5, 2) := by decide +kernel
theorem dX12_layCosts_47 : decode cX12_layCosts 47 = .ok (.iload 5, 2) := by decide +kernel
theorem dX12_layCosts_49 : decode cX12_layCosts 49 = .ok (.ifCond .lt 138, 3) := by decide +kernel
theorem dX12_layCosts_52 : decode cX12_layCosts 52 = .ok (.iconst 0, 1) := by decide +kernel
theorem dX12_layCosts_53 : decode cX12_layCosts 53 = .ok (.istore 6, 2) := by decide +kernel
theorem dX12_layCosts_55 : decode cX12_layCosts 55 = .ok (.iload 6, 2) := by decide +kernel
theorem dX12_layCosts_57 : decode cX12_layCosts 57 = .ok (.iload 4, 2) := by decide +kernel
theorem dX12_layCosts_59 : decode cX12_layCosts 59 = .ok (.if_icmp .gt 122, 3) := by decide +kernel
theorem dX12_layCosts_62 : decode cX12_layCosts 62 = .ok (.aload_n 0, 1) := by decide +kernel
theorem dX12_layCosts_63 : decode cX12_layCosts 63 = .ok (.getfield 147, 3) := by decide +kernel
theorem dX12_layCosts_66 : decode cX12_layCosts 66 = .ok (.bipush 9, 2) := by decide +kernel
theorem dX12_layCosts_68 : decode cX12_layCosts 68 = .ok (.iload 6, 2) := by decide +kernel
theorem dX12_layCosts_70 : decode cX12_layCosts 70 = .ok (.imul, 1) := by decide +kernel
theorem dX12_layCosts_71 : decode cX12_layCosts 71 = .ok (.iload 5, 2) := by decide +kernel
theorem dX12_layCosts_73 : decode cX12_layCosts 73 = .ok (.iadd, 1) := by decide +kernel
theorem dX12_layCosts_74 : decode cX12_layCosts 74 = .ok (.iconst 1, 1) := by decide +kernel
theorem dX12_layCosts_75 : decode cX12_layCosts 75 = .ok (.iadd, 1) := by decide +kernel
theorem dX12_layCosts_76 : decode cX12_layCosts 76 = .ok (.laload, 1) := by decide +kernel
theorem dX12_layCosts_77 : decode cX12_layCosts 77 = .ok (.lstore 7, 2) := by decide +kernel
theorem dX12_layCosts_79 : decode cX12_layCosts 79 = .ok (.iload 6, 2) := by decide +kernel
theorem dX12_layCosts_81 : decode cX12_layCosts 81 = .ok (.iconst 1, 1) := by decide +kernel
theorem dX12_layCosts_82 : decode cX12_layCosts 82 = .ok (.iadd, 1) := by decide +kernel
theorem dX12_layCosts_83 : decode cX12_layCosts 83 = .ok (.istore 9, 2) := by decide +kernel
theorem dX12_layCosts_85 : decode cX12_layCosts 85 = .ok (.iload 9, 2) := by decide +kernel
theorem dX12_layCosts_87 : decode cX12_layCosts 87 = .ok (.iload 4, 2) := by decide +kernel
theorem dX12_layCosts_89 : decode cX12_layCosts 89 = .ok (.if_icmp .gt 71, 3) := by decide +kernel
theorem dX12_layCosts_92 : decode cX12_layCosts 92 = .ok (.aload_n 0, 1) := by decide +kernel
theorem dX12_layCosts_93 : decode cX12_layCosts 93 = .ok (.iload_n 1, 1) := by decide +kernel
theorem dX12_layCosts_94 : decode cX12_layCosts 94 = .ok (.iload_n 3, 1) := by decide +kernel
theorem dX12_layCosts_95 : decode cX12_layCosts 95 = .ok (.iload 6, 2) := by decide +kernel
theorem dX12_layCosts_97 : decode cX12_layCosts 97 = .ok (.iload 9, 2) := by decide +kernel
theorem dX12_layCosts_99 : decode cX12_layCosts 99 = .ok (.iload 5, 2) := by decide +kernel
theorem dX12_layCosts_101 : decode cX12_layCosts 101 = .ok (.invokevirtual 374, 3) := by decide +kernel
theorem dX12_layCosts_104 : decode cX12_layCosts 104 = .ok (.ifCond .eq 50, 3) := by decide +kernel
theorem dX12_layCosts_107 : decode cX12_layCosts 107 = .ok (.aload_n 0, 1) := by decide +kernel
theorem dX12_layCosts_108 : decode cX12_layCosts 108 = .ok (.iload_n 1, 1) := by decide +kernel
theorem dX12_layCosts_109 : decode cX12_layCosts 109 = .ok (.iload_n 2, 1) := by decide +kernel
theorem dX12_layCosts_110 : decode cX12_layCosts 110 = .ok (.iload 6, 2) := by decide +kernel
theorem dX12_layCosts_112 : decode cX12_layCosts 112 = .ok (.iload 9, 2) := by decide +kernel
theorem dX12_layCosts_114 : decode cX12_layCosts 114 = .ok (.iload 5, 2) := by decide +kernel
theorem dX12_layCosts_116 : decode cX12_layCosts 116 = .ok (.invokevirtual 378, 3) := by decide +kernel
theorem dX12_layCosts_119 : decode cX12_layCosts 119 = .ok (.aload_n 0, 1) := by decide +kernel
theorem dX12_layCosts_120 : decode cX12_layCosts 120 = .ok (.getfield 147, 3) := by decide +kernel
theorem dX12_layCosts_123 : decode cX12_layCosts 123 = .ok (.bipush 9, 2) := by decide +kernel
theorem dX12_layCosts_125 : decode cX12_layCosts 125 = .ok (.iload 9, 2) := by decide +kernel
theorem dX12_layCosts_127 : decode cX12_layCosts 127 = .ok (.imul, 1) := by decide +kernel
theorem dX12_layCosts_128 : decode cX12_layCosts 128 = .ok (.iload 5, 2) := by decide +kernel
theorem dX12_layCosts_130 : decode cX12_layCosts 130 = .ok (.iadd, 1) := by decide +kernel
theorem dX12_layCosts_131 : decode cX12_layCosts 131 = .ok (.iconst 1, 1) := by decide +kernel
theorem dX12_layCosts_132 : decode cX12_layCosts 132 = .ok (.iadd, 1) := by decide +kernel
theorem dX12_layCosts_133 : decode cX12_layCosts 133 = .ok (.laload, 1) := by decide +kernel
theorem dX12_layCosts_134 : decode cX12_layCosts 134 = .ok (.ladd, 1) := by decide +kernel
theorem dX12_layCosts_135 : decode cX12_layCosts 135 = .ok (.lstore 10, 2) := by decide +kernel
theorem dX12_layCosts_137 : decode cX12_layCosts 137 = .ok (.lload 10, 2) := by decide +kernel
theorem dX12_layCosts_139 : decode cX12_layCosts 139 = .ok (.lload 7, 2) := by decide +kernel
theorem dX12_layCosts_141 : decode cX12_layCosts 141 = .ok (.lcmp, 1) := by decide +kernel
theorem dX12_layCosts_142 : decode cX12_layCosts 142 = .ok (.ifCond .ge 8, 3) := by decide +kernel
theorem dX12_layCosts_145 : decode cX12_layCosts 145 = .ok (.lload 10, 2) := by decide +kernel
theorem dX12_layCosts_147 : decode cX12_layCosts 147 = .ok (.goto 5, 3) := by decide +kernel
theorem dX12_layCosts_150 : decode cX12_layCosts 150 = .ok (.lload 7, 2) := by decide +kernel
theorem dX12_layCosts_152 : decode cX12_layCosts 152 = .ok (.lstore 7, 2) := by decide +kernel
theorem dX12_layCosts_154 : decode cX12_layCosts 154 = .ok (.iinc 9 1, 3) := by decide +kernel
theorem dX12_layCosts_157 : decode cX12_layCosts 157 = .ok (.goto (-72), 3) := by decide +kernel
theorem dX12_layCosts_160 : decode cX12_layCosts 160 = .ok (.aload_n 0, 1) := by decide +kernel
theorem dX12_layCosts_161 : decode cX12_layCosts 161 = .ok (.getfield 147, 3) := by decide +kernel
theorem dX12_layCosts_164 : decode cX12_layCosts 164 = .ok (.bipush 9, 2) := by decide +kernel
theorem dX12_layCosts_166 : decode cX12_layCosts 166 = .ok (.iload 6, 2) := by decide +kernel
theorem dX12_layCosts_168 : decode cX12_layCosts 168 = .ok (.imul, 1) := by decide +kernel
theorem dX12_layCosts_169 : decode cX12_layCosts 169 = .ok (.iload 5, 2) := by decide +kernel
theorem dX12_layCosts_171 : decode cX12_layCosts 171 = .ok (.iadd, 1) := by decide +kernel
theorem dX12_layCosts_172 : decode cX12_layCosts 172 = .ok (.lload 7, 2) := by decide +kernel
theorem dX12_layCosts_174 : decode cX12_layCosts 174 = .ok (.lastore, 1) := by decide +kernel
theorem dX12_layCosts_175 : decode cX12_layCosts 175 = .ok (.iinc 6 1, 3) := by decide +kernel
theorem dX12_layCosts_178 : decode cX12_layCosts 178 = .ok (.goto (-123), 3) := by decide +kernel
theorem dX12_layCosts_181 : decode cX12_layCosts 181 = .ok (.iinc 5 (-1), 3) := by decide +kernel
theorem dX12_layCosts_184 : decode cX12_layCosts 184 = .ok (.goto (-137), 3) := by decide +kernel
theorem dX12_layCosts_187 : decode cX12_layCosts 187 = .ok (.return_, 1) := by decide +kernel
theorem dX12_move_0 : decode cX12_move 0 = .ok (.iload_n 1, 1) := by decide +kernel
theorem dX12_move_1 : decode cX12_move 1 = .ok (.invokestatic 178, 3) := by decide +kernel
theorem dX12_move_4 : decode cX12_move 4 = .ok (.ifCond .eq 17, 3) := by decide +kernel
theorem dX12_move_7 : decode cX12_move 7 = .ok (.iload_n 2, 1) := by decide +kernel
theorem dX12_move_8 : decode cX12_move 8 = .ok (.invokestatic 178, 3) := by decide +kernel
theorem dX12_move_11 : decode cX12_move 11 = .ok (.ifCond .eq 10, 3) := by decide +kernel
theorem dX12_move_14 : decode cX12_move 14 = .ok (.iload_n 3, 1) := by decide +kernel
theorem dX12_move_15 : decode cX12_move 15 = .ok (.invokestatic 178, 3) := by decide +kernel
theorem dX12_move_18 : decode cX12_move 18 = .ok (.ifCond .ne 5, 3) := by decide +kernel
theorem dX12_move_21 : decode cX12_move 21 = .ok (.iconst (-1), 1) := by decide +kernel
theorem dX12_move_22 : decode cX12_move 22 = .ok (.ireturn, 1) := by decide +kernel
theorem dX12_move_23 : decode cX12_move 23 = .ok (.aload_n 0, 1) := by decide +kernel
theorem dX12_move_24 : decode cX12_move 24 = .ok (.getfield 13, 3) := by decide +kernel
theorem dX12_move_27 : decode cX12_move 27 = .ok (.iload_n 1, 1) := by decide +kernel
theorem dX12_move_28 : decode cX12_move 28 = .ok (.iaload, 1) := by decide +kernel
theorem dX12_move_29 : decode cX12_move 29 = .ok (.ifCond .lt 21, 3) := by decide +kernel
theorem dX12_move_32 : decode cX12_move 32 = .ok (.aload_n 0, 1) := by decide +kernel
theorem dX12_move_33 : decode cX12_move 33 = .ok (.getfield 13, 3) := by decide +kernel
theorem dX12_move_36 : decode cX12_move 36 = .ok (.iload_n 2, 1) := by decide +kernel
theorem dX12_move_37 : decode cX12_move 37 = .ok (.iaload, 1) := by decide +kernel
theorem dX12_move_38 : decode cX12_move 38 = .ok (.ifCond .lt 12, 3) := by decide +kernel
theorem dX12_move_41 : decode cX12_move 41 = .ok (.aload_n 0, 1) := by decide +kernel
theorem dX12_move_42 : decode cX12_move 42 = .ok (.getfield 13, 3) := by decide +kernel
theorem dX12_move_45 : decode cX12_move 45 = .ok (.iload_n 3, 1) := by decide +kernel
theorem dX12_move_46 : decode cX12_move 46 = .ok (.iaload, 1) := by decide +kernel
theorem dX12_move_47 : decode cX12_move 47 = .ok (.ifCond .ge 9, 3) := by decide +kernel
theorem dX12_move_50 : decode cX12_move 50 = .ok (.aload_n 0, 1) := by decide +kernel
theorem dX12_move_51 : decode cX12_move 51 = .ok (.iconst 1, 1) := by decide +kernel
theorem dX12_move_52 : decode cX12_move 52 = .ok (.invokevirtual 182, 3) := by decide +kernel
theorem dX12_move_55 : decode cX12_move 55 = .ok (.ireturn, 1) := by decide +kernel
theorem dX12_move_56 : decode cX12_move 56 = .ok (.aload_n 0, 1) := by decide +kernel
theorem dX12_move_57 : decode cX12_move 57 = .ok (.getfield 13, 3) := by decide +kernel
theorem dX12_move_60 : decode cX12_move 60 = .ok (.iload_n 1, 1) := by decide +kernel
theorem dX12_move_61 : decode cX12_move 61 = .ok (.iaload, 1) := by decide +kernel
theorem dX12_move_62 : decode cX12_move 62 = .ok (.istore 4, 2) := by decide +kernel
theorem dX12_move_64 : decode cX12_move 64 = .ok (.iload 4, 2) := by decide +kernel
theorem dX12_move_66 : decode cX12_move 66 = .ok (.iconst 1, 1) := by decide +kernel
theorem dX12_move_67 : decode cX12_move 67 = .ok (.bipush 12, 2) := by decide +kernel
theorem dX12_move_69 : decode cX12_move 69 = .ok (.invokestatic 168, 3) := by decide +kernel
theorem dX12_move_72 : decode cX12_move 72 = .ok (.ifCond .eq 25, 3) := by decide +kernel
theorem dX12_move_75 : decode cX12_move 75 = .ok (.aload_n 0, 1) := by decide +kernel
theorem dX12_move_76 : decode cX12_move 76 = .ok (.getfield 13, 3) := by decide +kernel
theorem dX12_move_79 : decode cX12_move 79 = .ok (.iload_n 2, 1) := by decide +kernel
theorem dX12_move_80 : decode cX12_move 80 = .ok (.iaload, 1) := by decide +kernel
theorem dX12_move_81 : decode cX12_move 81 = .ok (.iload 4, 2) := by decide +kernel
theorem dX12_move_83 : decode cX12_move 83 = .ok (.if_icmp .ne 14, 3) := by decide +kernel
theorem dX12_move_86 : decode cX12_move 86 = .ok (.aload_n 0, 1) := by decide +kernel
theorem dX12_move_87 : decode cX12_move 87 = .ok (.getfield 13, 3) := by decide +kernel
theorem dX12_move_90 : decode cX12_move 90 = .ok (.iload_n 3, 1) := by decide +kernel
theorem dX12_move_91 : decode cX12_move 91 = .ok (.iaload, 1) := by decide +kernel
theorem dX12_move_92 : decode cX12_move 92 = .ok (.bipush 8, 2) := by decide +kernel
theorem dX12_move_94 : decode cX12_move 94 = .ok (.if_icmp .eq 9, 3) := by decide +kernel
theorem dX12_move_97 : decode cX12_move 97 = .ok (.aload_n 0, 1) := by decide +kernel
theorem dX12_move_98 : decode cX12_move 98 = .ok (.iconst 5, 1) := by decide +kernel
theorem dX12_move_99 : decode cX12_move 99 = .ok (.invokevirtual 182, 3) := by decide +kernel
theorem dX12_move_102 : decode cX12_move 102 = .ok (.ireturn, 1) := by decide +kernel
theorem dX12_move_103 : decode cX12_move 103 = .ok (.iconst 1, 1) := by decide +kernel
theorem dX12_move_104 : decode cX12_move 104 = .ok (.istore 5, 2) := by decide +kernel
theorem dX12_move_106 : decode cX12_move 106 = .ok (.iconst 0, 1) := by decide +kernel
theorem dX12_move_107 : decode cX12_move 107 = .ok (.istore 6, 2) := by decide +kernel
theorem dX12_move_109 : decode cX12_move 109 = .ok (.iload 6, 2) := by decide +kernel
theorem dX12_move_111 : decode cX12_move 111 = .ok (.iload 4, 2) := by decide +kernel
theorem dX12_move_113 : decode cX12_move 113 = .ok (.if_icmp .ge 50, 3) := by decide +kernel
theorem dX12_move_116 : decode cX12_move 116 = .ok (.iload 5, 2) := by decide +kernel
theorem dX12_move_118 : decode cX12_move 118 = .ok (.ifCond .eq 36, 3) := by decide +kernel
theorem dX12_move_121 : decode cX12_move 121 = .ok (.aload_n 0, 1) := by decide +kernel
theorem dX12_move_122 : decode cX12_move 122 = .ok (.iload_n 1, 1) := by decide +kernel
theorem dX12_move_123 : decode cX12_move 123 = .ok (.iload 6, 2) := by decide +kernel
theorem dX12_move_125 : decode cX12_move 125 = .ok (.invokevirtual 186, 3) := by decide +kernel
theorem dX12_move_128 : decode cX12_move 128 = .ok (.iconst 0, 1) := by decide +kernel
theorem dX12_move_129 : decode cX12_move 129 = .ok (.bipush 99, 2) := by decide +kernel
theorem dX12_move_131 : decode cX12_move 131 = .ok (.invokestatic 168, 3) := by decide +kernel
theorem dX12_move_134 : decode cX12_move 134 = .ok (.ifCond .eq 20, 3) := by decide +kernel
theorem dX12_move_137 : decode cX12_move 137 = .ok (.aload_n 0, 1) := by decide +kernel
theorem dX12_move_138 : decode cX12_move 138 = .ok (.iload_n 2, 1) := by decide +kernel
theorem dX12_move_139 : decode cX12_move 139 = .ok (.iload 6, 2) := by decide +kernel
theorem dX12_move_141 : decode cX12_move 141 = .ok (.invokevirtual 186, 3) := by decide +kernel
theorem dX12_move_144 : decode cX12_move 144 = .ok (.invokestatic 230, 3) := by decide +kernel
theorem dX12_move_147 : decode cX12_move 147 = .ok (.ifCond .eq 7, 3) := by decide +kernel
theorem dX12_move_150 : decode cX12_move 150 = .ok (.iconst 1, 1) := by decide +kernel
theorem dX12_move_151 : decode cX12_move 151 = .ok (.goto 4, 3) := by decide +kernel
theorem dX12_move_154 : decode cX12_move 154 = .ok (.iconst 0, 1) := by decide +kernel
theorem dX12_move_155 : decode cX12_move 155 = .ok (.istore 5, 2) := by decide +kernel
theorem dX12_move_157 : decode cX12_move 157 = .ok (.iinc 6 1, 3) := by decide +kernel
theorem dX12_move_160 : decode cX12_move 160 = .ok (.goto (-51), 3) := by decide +kernel
theorem dX12_move_163 : decode cX12_move 163 = .ok (.iconst 0, 1) := by decide +kernel
theorem dX12_move_164 : decode cX12_move 164 = .ok (.istore 6, 2) := by decide +kernel
theorem dX12_move_166 : decode cX12_move 166 = .ok (.iload 6, 2) := by decide +kernel
theorem dX12_move_168 : decode cX12_move 168 = .ok (.bipush 8, 2) := by decide +kernel
theorem dX12_move_170 : decode cX12_move 170 = .ok (.if_icmp .ge 38, 3) := by decide +kernel
theorem dX12_move_173 : decode cX12_move 173 = .ok (.iload 5, 2) := by decide +kernel
theorem dX12_move_175 : decode cX12_move 175 = .ok (.ifCond .eq 24, 3) := by decide +kernel
theorem dX12_move_178 : decode cX12_move 178 = .ok (.aload_n 0, 1) := by decide +kernel
theorem dX12_move_179 : decode cX12_move 179 = .ok (.iload_n 3, 1) := by decide +kernel
theorem dX12_move_180 : decode cX12_move 180 = .ok (.iload 6, 2) := by decide +kernel
theorem dX12_move_182 : decode cX12_move 182 = .ok (.invokevirtual 186, 3) := by decide +kernel
theorem dX12_move_185 : decode cX12_move 185 = .ok (.iconst 0, 1) := by decide +kernel
theorem dX12_move_186 : decode cX12_move 186 = .ok (.sipush 999, 3) := by decide +kernel
theorem dX12_move_189 : decode cX12_move 189 = .ok (.invokestatic 168, 3) := by decide +kernel
theorem dX12_move_192 : decode cX12_move 192 = .ok (.ifCond .eq 7, 3) := by decide +kernel
theorem dX12_move_195 : decode cX12_move 195 = .ok (.iconst 1, 1) := by decide +kernel
theorem dX12_move_196 : decode cX12_move 196 = .ok (.goto 4, 3) := by decide +kernel
theorem dX12_move_199 : decode cX12_move 199 = .ok (.iconst 0, 1) := by decide +kernel
theorem dX12_move_200 : decode cX12_move 200 = .ok (.istore 5, 2) := by decide +kernel
theorem dX12_move_202 : decode cX12_move 202 = .ok (.iinc 6 1, 3) := by decide +kernel
theorem dX12_move_205 : decode cX12_move 205 = .ok (.goto (-39), 3) := by decide +kernel
theorem dX12_move_208 : decode cX12_move 208 = .ok (.iload 5, 2) := by decide +kernel
theorem dX12_move_210 : decode cX12_move 210 = .ok (.ifCond .ne 9, 3) := by decide +kernel
theorem dX12_move_213 : decode cX12_move 213 = .ok (.aload_n 0, 1) := by decide +kernel
theorem dX12_move_214 : decode cX12_move 214 = .ok (.iconst 3, 1) := by decide +kernel
theorem dX12_move_215 : decode cX12_move 215 = .ok (.invokevirtual 182, 3) := by decide +kernel
theorem dX12_move_218 : decode cX12_move 218 = .ok (.ireturn, 1) := by decide +kernel
theorem dX12_move_219 : decode cX12_move 219 = .ok (.aload_n 0, 1) := by decide +kernel
theorem dX12_move_220 : decode cX12_move 220 = .ok (.iload_n 1, 1) := by decide +kernel
theorem dX12_move_221 : decode cX12_move 221 = .ok (.iload_n 2, 1) := by decide +kernel
theorem dX12_move_222 : decode cX12_move 222 = .ok (.iload_n 3, 1) := by decide +kernel
theorem dX12_move_223 : decode cX12_move 223 = .ok (.iload 4, 2) := by decide +kernel
theorem dX12_move_225 : decode cX12_move 225 = .ok (.invokevirtual 382, 3) := by decide +kernel
theorem dX12_move_228 : decode cX12_move 228 = .ok (.aload_n 0, 1) := by decide +kernel
theorem dX12_move_229 : decode cX12_move 229 = .ok (.getfield 147, 3) := by decide +kernel
theorem dX12_move_232 : decode cX12_move 232 = .ok (.iconst 0, 1) := by decide +kernel
theorem dX12_move_233 : decode cX12_move 233 = .ok (.laload, 1) := by decide +kernel
theorem dX12_move_234 : decode cX12_move 234 = .ok (.ldc2_w 372, 3) := by decide +kernel
theorem dX12_move_237 : decode cX12_move 237 = .ok (.lcmp, 1) := by decide +kernel
theorem dX12_move_238 : decode cX12_move 238 = .ok (.ifCond .lt 6, 3) := by decide +kernel
theorem dX12_move_241 : decode cX12_move 241 = .ok (.bipush (-9), 2) := by decide +kernel
theorem dX12_move_243 : decode cX12_move 243 = .ok (.ireturn, 1) := by decide +kernel
theorem dX12_move_244 : decode cX12_move 244 = .ok (.aload_n 0, 1) := by decide +kernel
theorem dX12_move_245 : decode cX12_move 245 = .ok (.iload 4, 2) := by decide +kernel
theorem dX12_move_247 : decode cX12_move 247 = .ok (.putfield 386, 3) := by decide +kernel
theorem dX12_move_250 : decode cX12_move 250 = .ok (.iconst 0, 1) := by decide +kernel
theorem dX12_move_251 : decode cX12_move 251 = .ok (.istore 6, 2) := by decide +kernel
theorem dX12_move_253 : decode cX12_move 253 = .ok (.iconst 0, 1) := by decide +kernel
theorem dX12_move_254 : decode cX12_move 254 = .ok (.istore 7, 2) := by decide +kernel
theorem dX12_move_256 : decode cX12_move 256 = .ok (.iload 7, 2) := by decide +kernel
theorem dX12_move_258 : decode cX12_move 258 = .ok (.bipush 8, 2) := by decide +kernel
theorem dX12_move_260 : decode cX12_move 260 = .ok (.if_icmp .ge 108, 3) := by decide +kernel
theorem dX12_move_263 : decode cX12_move 263 = .ok (.iload 4, 2) := by decide +kernel
theorem dX12_move_265 : decode cX12_move 265 = .ok (.istore 8, 2) := by decide +kernel
theorem dX12_move_267 : decode cX12_move 267 = .ok (.iload 8, 2) := by decide +kernel
theorem dX12_move_269 : decode cX12_move 269 = .ok (.iload 6, 2) := by decide +kernel
theorem dX12_move_271 : decode cX12_move 271 = .ok (.if_icmp .le 69, 3) := by decide +kernel
theorem dX12_move_274 : decode cX12_move 274 = .ok (.aload_n 0, 1) := by decide +kernel
theorem dX12_move_275 : decode cX12_move 275 = .ok (.iload_n 1, 1) := by decide +kernel
theorem dX12_move_276 : decode cX12_move 276 = .ok (.iload_n 3, 1) := by decide +kernel
theorem dX12_move_277 : decode cX12_move 277 = .ok (.iload 6, 2) := by decide +kernel
theorem dX12_move_279 : decode cX12_move 279 = .ok (.iload 8, 2) := by decide +kernel
theorem dX12_move_281 : decode cX12_move 281 = .ok (.iload 7, 2) := by decide +kernel
theorem dX12_move_283 : decode cX12_move 283 = .ok (.invokevirtual 374, 3) := by decide +kernel
theorem dX12_move_286 : decode cX12_move 286 = .ok (.ifCond .eq 48, 3) := by decide +kernel
theorem dX12_move_289 : decode cX12_move 289 = .ok (.aload_n 0, 1) := by decide +kernel
theorem dX12_move_290 : decode cX12_move 290 = .ok (.iload_n 1, 1) := by decide +kernel
theorem dX12_move_291 : decode cX12_move 291 = .ok (.iload_n 2, 1) := by decide +kernel
theorem dX12_move_292 : decode cX12_move 292 = .ok (.iload 6, 2) := by decide +kernel
theorem dX12_move_294 : decode cX12_move 294 = .ok (.iload 8, 2) := by decide +kernel
theorem dX12_move_296 : decode cX12_move 296 = .ok (.iload 7, 2) := by decide +kernel
theorem dX12_move_298 : decode cX12_move 298 = .ok (.invokevirtual 378, 3) := by decide +kernel
theorem dX12_move_301 : decode cX12_move 301 = .ok (.aload_n 0, 1) := by decide +kernel
theorem dX12_move_302 : decode cX12_move 302 = .ok (.getfield 147, 3) := by decide +kernel
theorem dX12_move_305 : decode cX12_move 305 = .ok (.bipush 9, 2) := by decide +kernel
theorem dX12_move_307 : decode cX12_move 307 = .ok (.iload 8, 2) := by decide +kernel
theorem dX12_move_309 : decode cX12_move 309 = .ok (.imul, 1) := by decide +kernel
theorem dX12_move_310 : decode cX12_move 310 = .ok (.iload 7, 2) := by decide +kernel
theorem dX12_move_312 : decode cX12_move 312 = .ok (.iadd, 1) := by decide +kernel
theorem dX12_move_313 : decode cX12_move 313 = .ok (.iconst 1, 1) := by decide +kernel
theorem dX12_move_314 : decode cX12_move 314 = .ok (.iadd, 1) := by decide +kernel
theorem dX12_move_315 : decode cX12_move 315 = .ok (.laload, 1) := by decide +kernel
theorem dX12_move_316 : decode cX12_move 316 = .ok (.ladd, 1) := by decide +kernel
theorem dX12_move_317 : decode cX12_move 317 = .ok (.aload_n 0, 1) := by decide +kernel
theorem dX12_move_318 : decode cX12_move 318 = .ok (.getfield 147, 3) := by decide +kernel
theorem dX12_move_321 : decode cX12_move 321 = .ok (.bipush 9, 2) := by decide +kernel
theorem dX12_move_323 : decode cX12_move 323 = .ok (.iload 6, 2) := by decide +kernel
theorem dX12_move_325 : decode cX12_move 325 = .ok (.imul, 1) := by decide +kernel
theorem dX12_move_326 : decode cX12_move 326 = .ok (.iload 7, 2) := by decide +kernel
theorem dX12_move_328 : decode cX12_move 328 = .ok (.iadd, 1) := by decide +kernel
theorem dX12_move_329 : decode cX12_move 329 = .ok (.laload, 1) := by decide +kernel
theorem dX12_move_330 : decode cX12_move 330 = .ok (.lcmp, 1) := by decide +kernel
theorem dX12_move_331 : decode cX12_move 331 = .ok (.ifCond .eq 9, 3) := by decide +kernel
theorem dX12_move_334 : decode cX12_move 334 = .ok (.iinc 8 (-1), 3) := by decide +kernel
theorem dX12_move_337 : decode cX12_move 337 = .ok (.goto (-70), 3) := by decide +kernel
theorem dX12_move_340 : decode cX12_move 340 = .ok (.iload 6, 2) := by decide +kernel
theorem dX12_move_342 : decode cX12_move 342 = .ok (.iload 8, 2) := by decide +kernel
theorem dX12_move_344 : decode cX12_move 344 = .ok (.if_icmp .ge 18, 3) := by decide +kernel
theorem dX12_move_347 : decode cX12_move 347 = .ok (.aload_n 0, 1) := by decide +kernel
theorem dX12_move_348 : decode cX12_move 348 = .ok (.getfield 151, 3) := by decide +kernel
theorem dX12_move_351 : decode cX12_move 351 = .ok (.iload 6, 2) := by decide +kernel
theorem dX12_move_353 : decode cX12_move 353 = .ok (.iload 7, 2) := by decide +kernel
theorem dX12_move_355 : decode cX12_move 355 = .ok (.iastore, 1) := by decide +kernel
theorem dX12_move_356 : decode cX12_move 356 = .ok (.iinc 6 1, 3) := by decide +kernel
theorem dX12_move_359 : decode cX12_move 359 = .ok (.goto (-19), 3) := by decide +kernel
theorem dX12_move_362 : decode cX12_move 362 = .ok (.iinc 7 1, 3) := by decide +kernel
theorem dX12_move_365 : decode cX12_move 365 = .ok (.goto (-109), 3) := by decide +kernel
theorem dX12_move_368 : decode cX12_move 368 = .ok (.aload_n 0, 1) := by decide +kernel
theorem dX12_move_369 : decode cX12_move 369 = .ok (.getfield 147, 3) := by decide +kernel
theorem dX12_move_372 : decode cX12_move 372 = .ok (.iconst 0, 1) := by decide +kernel
theorem dX12_move_373 : decode cX12_move 373 = .ok (.laload, 1) := by decide +kernel
theorem dX12_move_374 : decode cX12_move 374 = .ok (.l2i, 1) := by decide +kernel
theorem dX12_move_375 : decode cX12_move 375 = .ok (.ireturn, 1) := by decide +kernel
theorem dX12_moved_0 : decode cX12_moved 0 = .ok (.iload_n 1, 1) := by decide +kernel
theorem dX12_moved_1 : decode cX12_moved 1 = .ok (.iconst 0, 1) := by decide +kernel
theorem dX12_moved_2 : decode cX12_moved 2 = .ok (.aload_n 0, 1) := by decide +kernel
theorem dX12_moved_3 : decode cX12_moved 3 = .ok (.getfield 386, 3) := by decide +kernel
theorem dX12_moved_6 : decode cX12_moved 6 = .ok (.iconst 1, 1) := by decide +kernel
theorem dX12_moved_7 : decode cX12_moved 7 = .ok (.isub, 1) := by decide +kernel
theorem dX12_moved_8 : decode cX12_moved 8 = .ok (.invokestatic 168, 3) := by decide +kernel
theorem dX12_moved_11 : decode cX12_moved 11 = .ok (.ifCond .eq 12, 3) := by decide +kernel
theorem dX12_moved_14 : decode cX12_moved 14 = .ok (.aload_n 0, 1) := by decide +kernel
theorem dX12_moved_15 : decode cX12_moved 15 = .ok (.getfield 151, 3) := by decide +kernel
theorem dX12_moved_18 : decode cX12_moved 18 = .ok (.iload_n 1, 1) := by decide +kernel
theorem dX12_moved_19 : decode cX12_moved 19 = .ok (.iaload, 1) := by decide +kernel
theorem dX12_moved_20 : decode cX12_moved 20 = .ok (.goto 5, 3) := by decide +kernel
theorem dX12_moved_23 : decode cX12_moved 23 = .ok (.bipush (-9), 2) := by decide +kernel
theorem dX12_moved_25 : decode cX12_moved 25 = .ok (.ireturn, 1) := by decide +kernel
theorem dX12_eye_0 : decode cX12_eye 0 = .ok (.iload_n 1, 1) := by decide +kernel
theorem dX12_eye_1 : decode cX12_eye 1 = .ok (.invokestatic 389, 3) := by decide +kernel
theorem dX12_eye_4 : decode cX12_eye 4 = .ok (.ifCond .eq 13, 3) := by decide +kernel
theorem dX12_eye_7 : decode cX12_eye 7 = .ok (.iload_n 2, 1) := by decide +kernel
theorem dX12_eye_8 : decode cX12_eye 8 = .ok (.iload_n 1, 1) := by decide +kernel
theorem dX12_eye_9 : decode cX12_eye 9 = .ok (.ldc 205, 2) := by decide +kernel
theorem dX12_eye_11 : decode cX12_eye 11 = .ok (.invokestatic 168, 3) := by decide +kernel
theorem dX12_eye_14 : decode cX12_eye 14 = .ok (.ifCond .ne 5, 3) := by decide +kernel
theorem dX12_eye_17 : decode cX12_eye 17 = .ok (.iconst (-1), 1) := by decide +kernel
theorem dX12_eye_18 : decode cX12_eye 18 = .ok (.ireturn, 1) := by decide +kernel
theorem dX12_eye_19 : decode cX12_eye 19 = .ok (.aload_n 0, 1) := by decide +kernel
theorem dX12_eye_20 : decode cX12_eye 20 = .ok (.getfield 392, 3) := by decide +kernel
theorem dX12_eye_23 : decode cX12_eye 23 = .ok (.bipush 12, 2) := by decide +kernel
theorem dX12_eye_25 : decode cX12_eye 25 = .ok (.if_icmp .ne 6, 3) := by decide +kernel
theorem dX12_eye_28 : decode cX12_eye 28 = .ok (.bipush (-2), 2) := by decide +kernel
theorem dX12_eye_30 : decode cX12_eye 30 = .ok (.ireturn, 1) := by decide +kernel
theorem dX12_eye_31 : decode cX12_eye 31 = .ok (.aload_n 0, 1) := by decide +kernel
theorem dX12_eye_32 : decode cX12_eye 32 = .ok (.getfield 154, 3) := by decide +kernel
theorem dX12_eye_35 : decode cX12_eye 35 = .ok (.aload_n 0, 1) := by decide +kernel
theorem dX12_eye_36 : decode cX12_eye 36 = .ok (.getfield 392, 3) := by decide +kernel
theorem dX12_eye_39 : decode cX12_eye 39 = .ok (.iload_n 1, 1) := by decide +kernel
theorem dX12_eye_40 : decode cX12_eye 40 = .ok (.iastore, 1) := by decide +kernel
theorem dX12_eye_41 : decode cX12_eye 41 = .ok (.aload_n 0, 1) := by decide +kernel
theorem dX12_eye_42 : decode cX12_eye 42 = .ok (.getfield 157, 3) := by decide +kernel
theorem dX12_eye_45 : decode cX12_eye 45 = .ok (.aload_n 0, 1) := by decide +kernel
theorem dX12_eye_46 : decode cX12_eye 46 = .ok (.getfield 392, 3) := by decide +kernel
theorem dX12_eye_49 : decode cX12_eye 49 = .ok (.iload_n 2, 1) := by decide +kernel
theorem dX12_eye_50 : decode cX12_eye 50 = .ok (.iastore, 1) := by decide +kernel
theorem dX12_eye_51 : decode cX12_eye 51 = .ok (.aload_n 0, 1) := by decide +kernel
theorem dX12_eye_52 : decode cX12_eye 52 = .ok (.dup, 1) := by decide +kernel
theorem dX12_eye_53 : decode cX12_eye 53 = .ok (.getfield 392, 3) := by decide +kernel
theorem dX12_eye_56 : decode cX12_eye 56 = .ok (.iconst 1, 1) := by decide +kernel
theorem dX12_eye_57 : decode cX12_eye 57 = .ok (.iadd, 1) := by decide +kernel
theorem dX12_eye_58 : decode cX12_eye 58 = .ok (.putfield 392, 3) := by decide +kernel
theorem dX12_eye_61 : decode cX12_eye 61 = .ok (.aload_n 0, 1) := by decide +kernel
theorem dX12_eye_62 : decode cX12_eye 62 = .ok (.getfield 392, 3) := by decide +kernel
theorem dX12_eye_65 : decode cX12_eye 65 = .ok (.ireturn, 1) := by decide +kernel
theorem dX12_eyesAt_0 : decode cX12_eyesAt 0 = .ok (.iconst 0, 1) := by decide +kernel
theorem dX12_eyesAt_1 : decode cX12_eyesAt 1 = .ok (.istore_n 2, 1) := by decide +kernel
theorem dX12_eyesAt_2 : decode cX12_eyesAt 2 = .ok (.iconst 0, 1) := by decide +kernel
theorem dX12_eyesAt_3 : decode cX12_eyesAt 3 = .ok (.istore_n 3, 1) := by decide +kernel
theorem dX12_eyesAt_4 : decode cX12_eyesAt 4 = .ok (.iload_n 3, 1) := by decide +kernel
theorem dX12_eyesAt_5 : decode cX12_eyesAt 5 = .ok (.aload_n 0, 1) := by decide +kernel
theorem dX12_eyesAt_6 : decode cX12_eyesAt 6 = .ok (.getfield 392, 3) := by decide +kernel
theorem dX12_eyesAt_9 : decode cX12_eyesAt 9 = .ok (.if_icmp .ge 36, 3) := by decide +kernel
theorem dX12_eyesAt_12 : decode cX12_eyesAt 12 = .ok (.iload_n 2, 1) := by decide +kernel
theorem dX12_eyesAt_13 : decode cX12_eyesAt 13 = .ok (.iload_n 1, 1) := by decide +kernel
theorem dX12_eyesAt_14 : decode cX12_eyesAt 14 = .ok (.aload_n 0, 1) := by decide +kernel
theorem dX12_eyesAt_15 : decode cX12_eyesAt 15 = .ok (.getfield 154, 3) := by decide +kernel
theorem dX12_eyesAt_18 : decode cX12_eyesAt 18 = .ok (.iload_n 3, 1) := by decide +kernel
theorem dX12_eyesAt_19 : decode cX12_eyesAt 19 = .ok (.iaload, 1) := by decide +kernel
theorem dX12_eyesAt_20 : decode cX12_eyesAt 20 = .ok (.aload_n 0, 1) := by decide +kernel
theorem dX12_eyesAt_21 : decode cX12_eyesAt 21 = .ok (.getfield 157, 3) := by decide +kernel
theorem dX12_eyesAt_24 : decode cX12_eyesAt 24 = .ok (.iload_n 3, 1) := by decide +kernel
theorem dX12_eyesAt_25 : decode cX12_eyesAt 25 = .ok (.iaload, 1) := by decide +kernel
theorem dX12_eyesAt_26 : decode cX12_eyesAt 26 = .ok (.invokestatic 168, 3) := by decide +kernel
theorem dX12_eyesAt_29 : decode cX12_eyesAt 29 = .ok (.ifCond .eq 7, 3) := by decide +kernel
theorem dX12_eyesAt_32 : decode cX12_eyesAt 32 = .ok (.iconst 1, 1) := by decide +kernel
theorem dX12_eyesAt_33 : decode cX12_eyesAt 33 = .ok (.goto 4, 3) := by decide +kernel
theorem dX12_eyesAt_36 : decode cX12_eyesAt 36 = .ok (.iconst 0, 1) := by decide +kernel
theorem dX12_eyesAt_37 : decode cX12_eyesAt 37 = .ok (.iadd, 1) := by decide +kernel
theorem dX12_eyesAt_38 : decode cX12_eyesAt 38 = .ok (.istore_n 2, 1) := by decide +kernel
theorem dX12_eyesAt_39 : decode cX12_eyesAt 39 = .ok (.iinc 3 1, 3) := by decide +kernel
theorem dX12_eyesAt_42 : decode cX12_eyesAt 42 = .ok (.goto (-38), 3) := by decide +kernel
theorem dX12_eyesAt_45 : decode cX12_eyesAt 45 = .ok (.iload_n 2, 1) := by decide +kernel
theorem dX12_eyesAt_46 : decode cX12_eyesAt 46 = .ok (.ireturn, 1) := by decide +kernel
theorem dX12_eyes_0 : decode cX12_eyes 0 = .ok (.iload_n 1, 1) := by decide +kernel
theorem dX12_eyes_1 : decode cX12_eyes 1 = .ok (.invokestatic 389, 3) := by decide +kernel
theorem dX12_eyes_4 : decode cX12_eyes 4 = .ok (.ifCond .eq 11, 3) := by decide +kernel
theorem dX12_eyes_7 : decode cX12_eyes 7 = .ok (.aload_n 0, 1) := by decide +kernel
theorem dX12_eyes_8 : decode cX12_eyes 8 = .ok (.iload_n 1, 1) := by decide +kernel
theorem dX12_eyes_9 : decode cX12_eyes 9 = .ok (.invokevirtual 292, 3) := by decide +kernel
theorem dX12_eyes_12 : decode cX12_eyes 12 = .ok (.goto 4, 3) := by decide +kernel
theorem dX12_eyes_15 : decode cX12_eyes 15 = .ok (.iconst (-1), 1) := by decide +kernel
theorem dX12_eyes_16 : decode cX12_eyes 16 = .ok (.ireturn, 1) := by decide +kernel
theorem dX12_layGone_0 : decode cX12_layGone 0 = .ok (.bipush (-9), 2) := by decide +kernel
theorem dX12_layGone_2 : decode cX12_layGone 2 = .ok (.istore_n 2, 1) := by decide +kernel
theorem dX12_layGone_3 : decode cX12_layGone 3 = .ok (.bipush (-9), 2) := by decide +kernel
theorem dX12_layGone_5 : decode cX12_layGone 5 = .ok (.istore_n 3, 1) := by decide +kernel
theorem dX12_layGone_6 : decode cX12_layGone 6 = .ok (.iconst 0, 1) := by decide +kernel
theorem dX12_layGone_7 : decode cX12_layGone 7 = .ok (.istore 4, 2) := by decide +kernel
theorem dX12_layGone_9 : decode cX12_layGone 9 = .ok (.iload 4, 2) := by decide +kernel
theorem dX12_layGone_11 : decode cX12_layGone 11 = .ok (.aload_n 0, 1) := by decide +kernel
theorem dX12_layGone_12 : decode cX12_layGone 12 = .ok (.getfield 307, 3) := by decide +kernel
theorem dX12_layGone_15 : decode cX12_layGone 15 = .ok (.if_icmp .ge 67, 3) := by decide +kernel
theorem dX12_layGone_18 : decode cX12_layGone 18 = .ok (.aload_n 0, 1) := by decide +kernel
theorem dX12_layGone_19 : decode cX12_layGone 19 = .ok (.getfield 102, 3) := by decide +kernel
theorem dX12_layGone_22 : decode cX12_layGone 22 = .ok (.iload 4, 2) := by decide +kernel
theorem dX12_layGone_24 : decode cX12_layGone 24 = .ok (.iaload, 1) := by decide +kernel
theorem dX12_layGone_25 : decode cX12_layGone 25 = .ok (.iload_n 1, 1) := by decide +kernel
theorem dX12_layGone_26 : decode cX12_layGone 26 = .ok (.if_icmp .ne 50, 3) := by decide +kernel
theorem dX12_layGone_29 : decode cX12_layGone 29 = .ok (.aload_n 0, 1) := by decide +kernel
theorem dX12_layGone_30 : decode cX12_layGone 30 = .ok (.getfield 108, 3) := by decide +kernel
theorem dX12_layGone_33 : decode cX12_layGone 33 = .ok (.iload 4, 2) := by decide +kernel
theorem dX12_layGone_35 : decode cX12_layGone 35 = .ok (.iaload, 1) := by decide +kernel
theorem dX12_layGone_36 : decode cX12_layGone 36 = .ok (.iconst 1, 1) := by decide +kernel
theorem dX12_layGone_37 : decode cX12_layGone 37 = .ok (.if_icmp .ne 8, 3) := by decide +kernel
theorem dX12_layGone_40 : decode cX12_layGone 40 = .ok (.iload 4, 2) := by decide +kernel
theorem dX12_layGone_42 : decode cX12_layGone 42 = .ok (.goto 4, 3) := by decide +kernel
theorem dX12_layGone_45 : decode cX12_layGone 45 = .ok (.iload_n 2, 1) := by decide +kernel
theorem dX12_layGone_46 : decode cX12_layGone 46 = .ok (.istore_n 2, 1) := by decide +kernel
theorem dX12_layGone_47 : decode cX12_layGone 47 = .ok (.aload_n 0, 1) := by decide +kernel
theorem dX12_layGone_48 : decode cX12_layGone 48 = .ok (.getfield 108, 3) := by decide +kernel
theorem dX12_layGone_51 : decode cX12_layGone 51 = .ok (.iload 4, 2) := by decide +kernel
theorem dX12_layGone_53 : decode cX12_layGone 53 = .ok (.iaload, 1) := by decide +kernel
theorem dX12_layGone_54 : decode cX12_layGone 54 = .ok (.iconst 1, 1) := by decide +kernel
theorem dX12_layGone_55 : decode cX12_layGone 55 = .ok (.if_icmp .ne 8, 3) := by decide +kernel
theorem dX12_layGone_58 : decode cX12_layGone 58 = .ok (.bipush (-9), 2) := by decide +kernel
theorem dX12_layGone_60 : decode cX12_layGone 60 = .ok (.goto 15, 3) := by decide +kernel
theorem dX12_layGone_63 : decode cX12_layGone 63 = .ok (.iload_n 3, 1) := by decide +kernel
theorem dX12_layGone_64 : decode cX12_layGone 64 = .ok (.bipush (-9), 2) := by decide +kernel
theorem dX12_layGone_66 : decode cX12_layGone 66 = .ok (.if_icmp .ne 8, 3) := by decide +kernel
theorem dX12_layGone_69 : decode cX12_layGone 69 = .ok (.iload 4, 2) := by decide +kernel
theorem dX12_layGone_71 : decode cX12_layGone 71 = .ok (.goto 4, 3) := by decide +kernel
theorem dX12_layGone_74 : decode cX12_layGone 74 = .ok (.iload_n 3, 1) := by decide +kernel
theorem dX12_layGone_75 : decode cX12_layGone 75 = .ok (.istore_n 3, 1) := by decide +kernel
theorem dX12_layGone_76 : decode cX12_layGone 76 = .ok (.iinc 4 1, 3) := by decide +kernel
theorem dX12_layGone_79 : decode cX12_layGone 79 = .ok (.goto (-70), 3) := by decide +kernel
theorem dX12_layGone_82 : decode cX12_layGone 82 = .ok (.iload_n 2, 1) := by decide +kernel
theorem dX12_layGone_83 : decode cX12_layGone 83 = .ok (.bipush (-9), 2) := by decide +kernel
theorem dX12_layGone_85 : decode cX12_layGone 85 = .ok (.if_icmp .eq 9, 3) := by decide +kernel
theorem dX12_layGone_88 : decode cX12_layGone 88 = .ok (.iload_n 3, 1) := by decide +kernel
theorem dX12_layGone_89 : decode cX12_layGone 89 = .ok (.bipush (-9), 2) := by decide +kernel
theorem dX12_layGone_91 : decode cX12_layGone 91 = .ok (.if_icmp .ne 5, 3) := by decide +kernel
theorem dX12_layGone_94 : decode cX12_layGone 94 = .ok (.iconst 0, 1) := by decide +kernel
theorem dX12_layGone_95 : decode cX12_layGone 95 = .ok (.ireturn, 1) := by decide +kernel
theorem dX12_layGone_96 : decode cX12_layGone 96 = .ok (.aload_n 0, 1) := by decide +kernel
theorem dX12_layGone_97 : decode cX12_layGone 97 = .ok (.aload_n 0, 1) := by decide +kernel
theorem dX12_layGone_98 : decode cX12_layGone 98 = .ok (.getfield 105, 3) := by decide +kernel
theorem dX12_layGone_101 : decode cX12_layGone 101 = .ok (.iload_n 2, 1) := by decide +kernel
theorem dX12_layGone_102 : decode cX12_layGone 102 = .ok (.iaload, 1) := by decide +kernel
theorem dX12_layGone_103 : decode cX12_layGone 103 = .ok (.putfield 395, 3) := by decide +kernel
theorem dX12_layGone_106 : decode cX12_layGone 106 = .ok (.aload_n 0, 1) := by decide +kernel
theorem dX12_layGone_107 : decode cX12_layGone 107 = .ok (.aload_n 0, 1) := by decide +kernel
theorem dX12_layGone_108 : decode cX12_layGone 108 = .ok (.getfield 105, 3) := by decide +kernel
theorem dX12_layGone_111 : decode cX12_layGone 111 = .ok (.iload_n 3, 1) := by decide +kernel
theorem dX12_layGone_112 : decode cX12_layGone 112 = .ok (.iaload, 1) := by decide +kernel
theorem dX12_layGone_113 : decode cX12_layGone 113 = .ok (.putfield 398, 3) := by decide +kernel
theorem dX12_layGone_116 : decode cX12_layGone 116 = .ok (.iconst 1, 1) := by decide +kernel
theorem dX12_layGone_117 : decode cX12_layGone 117 = .ok (.ireturn, 1) := by decide +kernel
theorem dX12_gone_0 : decode cX12_gone 0 = .ok (.aload_n 0, 1) := by decide +kernel
theorem dX12_gone_1 : decode cX12_gone 1 = .ok (.iload_n 1, 1) := by decide +kernel
theorem dX12_gone_2 : decode cX12_gone 2 = .ok (.invokevirtual 236, 3) := by decide +kernel
theorem dX12_gone_5 : decode cX12_gone 5 = .ok (.ifCond .ne 5, 3) := by decide +kernel
theorem dX12_gone_8 : decode cX12_gone 8 = .ok (.iconst (-1), 1) := by decide +kernel
theorem dX12_gone_9 : decode cX12_gone 9 = .ok (.ireturn, 1) := by decide +kernel
theorem dX12_gone_10 : decode cX12_gone 10 = .ok (.aload_n 0, 1) := by decide +kernel
theorem dX12_gone_11 : decode cX12_gone 11 = .ok (.iload_n 1, 1) := by decide +kernel
theorem dX12_gone_12 : decode cX12_gone 12 = .ok (.invokevirtual 401, 3) := by decide +kernel
theorem dX12_gone_15 : decode cX12_gone 15 = .ok (.ifCond .eq 23, 3) := by decide +kernel
theorem dX12_gone_18 : decode cX12_gone 18 = .ok (.aload_n 0, 1) := by decide +kernel
theorem dX12_gone_19 : decode cX12_gone 19 = .ok (.aload_n 0, 1) := by decide +kernel
theorem dX12_gone_20 : decode cX12_gone 20 = .ok (.getfield 395, 3) := by decide +kernel
theorem dX12_gone_23 : decode cX12_gone 23 = .ok (.aload_n 0, 1) := by decide +kernel
theorem dX12_gone_24 : decode cX12_gone 24 = .ok (.getfield 398, 3) := by decide +kernel
theorem dX12_gone_27 : decode cX12_gone 27 = .ok (.aload_n 0, 1) := by decide +kernel
theorem dX12_gone_28 : decode cX12_gone 28 = .ok (.getfield 395, 3) := by decide +kernel
theorem dX12_gone_31 : decode cX12_gone 31 = .ok (.isub, 1) := by decide +kernel
theorem dX12_gone_32 : decode cX12_gone 32 = .ok (.invokevirtual 190, 3) := by decide +kernel
theorem dX12_gone_35 : decode cX12_gone 35 = .ok (.goto 5, 3) := by decide +kernel
theorem dX12_gone_38 : decode cX12_gone 38 = .ok (.bipush (-9), 2) := by decide +kernel
theorem dX12_gone_40 : decode cX12_gone 40 = .ok (.ireturn, 1) := by decide +kernel
theorem dX12_hands_0 : decode cX12_hands 0 = .ok (.aload_n 0, 1) := by decide +kernel
theorem dX12_hands_1 : decode cX12_hands 1 = .ok (.iload_n 1, 1) := by decide +kernel
theorem dX12_hands_2 : decode cX12_hands 2 = .ok (.invokevirtual 236, 3) := by decide +kernel
theorem dX12_hands_5 : decode cX12_hands 5 = .ok (.ifCond .ne 5, 3) := by decide +kernel
theorem dX12_hands_8 : decode cX12_hands 8 = .ok (.iconst (-1), 1) := by decide +kernel
theorem dX12_hands_9 : decode cX12_hands 9 = .ok (.ireturn, 1) := by decide +kernel
theorem dX12_hands_10 : decode cX12_hands 10 = .ok (.aload_n 0, 1) := by decide +kernel
theorem dX12_hands_11 : decode cX12_hands 11 = .ok (.iload_n 1, 1) := by decide +kernel
theorem dX12_hands_12 : decode cX12_hands 12 = .ok (.invokevirtual 401, 3) := by decide +kernel
theorem dX12_hands_15 : decode cX12_hands 15 = .ok (.ifCond .ne 6, 3) := by decide +kernel
theorem dX12_hands_18 : decode cX12_hands 18 = .ok (.bipush (-9), 2) := by decide +kernel
theorem dX12_hands_20 : decode cX12_hands 20 = .ok (.ireturn, 1) := by decide +kernel
theorem dX12_hands_21 : decode cX12_hands 21 = .ok (.iconst 0, 1) := by decide +kernel
theorem dX12_hands_22 : decode cX12_hands 22 = .ok (.istore_n 2, 1) := by decide +kernel
theorem dX12_hands_23 : decode cX12_hands 23 = .ok (.iconst 0, 1) := by decide +kernel
theorem dX12_hands_24 : decode cX12_hands 24 = .ok (.istore_n 3, 1) := by decide +kernel
theorem dX12_hands_25 : decode cX12_hands 25 = .ok (.iload_n 3, 1) := by decide +kernel
theorem dX12_hands_26 : decode cX12_hands 26 = .ok (.aload_n 0, 1) := by decide +kernel
theorem dX12_hands_27 : decode cX12_hands 27 = .ok (.getfield 209, 3) := by decide +kernel
theorem dX12_hands_30 : decode cX12_hands 30 = .ok (.if_icmp .ge 83, 3) := by decide +kernel
theorem dX12_hands_33 : decode cX12_hands 33 = .ok (.aload_n 0, 1) := by decide +kernel
theorem dX12_hands_34 : decode cX12_hands 34 = .ok (.getfield 54, 3) := by decide +kernel
theorem dX12_hands_37 : decode cX12_hands 37 = .ok (.iload_n 3, 1) := by decide +kernel
theorem dX12_hands_38 : decode cX12_hands 38 = .ok (.iaload, 1) := by decide +kernel
theorem dX12_hands_39 : decode cX12_hands 39 = .ok (.iload_n 1, 1) := by decide +kernel
theorem dX12_hands_40 : decode cX12_hands 40 = .ok (.if_icmp .ne 44, 3) := by decide +kernel
theorem dX12_hands_43 : decode cX12_hands 43 = .ok (.aload_n 0, 1) := by decide +kernel
theorem dX12_hands_44 : decode cX12_hands 44 = .ok (.getfield 60, 3) := by decide +kernel
theorem dX12_hands_47 : decode cX12_hands 47 = .ok (.iload_n 3, 1) := by decide +kernel
theorem dX12_hands_48 : decode cX12_hands 48 = .ok (.iaload, 1) := by decide +kernel
theorem dX12_hands_49 : decode cX12_hands 49 = .ok (.aload_n 0, 1) := by decide +kernel
theorem dX12_hands_50 : decode cX12_hands 50 = .ok (.getfield 398, 3) := by decide +kernel
theorem dX12_hands_53 : decode cX12_hands 53 = .ok (.if_icmp .gt 31, 3) := by decide +kernel
theorem dX12_hands_56 : decode cX12_hands 56 = .ok (.aload_n 0, 1) := by decide +kernel
theorem dX12_hands_57 : decode cX12_hands 57 = .ok (.getfield 63, 3) := by decide +kernel
theorem dX12_hands_60 : decode cX12_hands 60 = .ok (.iload_n 3, 1) := by decide +kernel
theorem dX12_hands_61 : decode cX12_hands 61 = .ok (.iaload, 1) := by decide +kernel
theorem dX12_hands_62 : decode cX12_hands 62 = .ok (.bipush (-9), 2) := by decide +kernel
theorem dX12_hands_64 : decode cX12_hands 64 = .ok (.if_icmp .eq 16, 3) := by decide +kernel
theorem dX12_hands_67 : decode cX12_hands 67 = .ok (.aload_n 0, 1) := by decide +kernel
theorem dX12_hands_68 : decode cX12_hands 68 = .ok (.getfield 63, 3) := by decide +kernel
theorem dX12_hands_71 : decode cX12_hands 71 = .ok (.iload_n 3, 1) := by decide +kernel
theorem dX12_hands_72 : decode cX12_hands 72 = .ok (.iaload, 1) := by decide +kernel
theorem dX12_hands_73 : decode cX12_hands 73 = .ok (.aload_n 0, 1) := by decide +kernel
theorem dX12_hands_74 : decode cX12_hands 74 = .ok (.getfield 395, 3) := by decide +kernel
theorem dX12_hands_77 : decode cX12_hands 77 = .ok (.if_icmp .lt 7, 3) := by decide +kernel
theorem dX12_hands_80 : decode cX12_hands 80 = .ok (.iconst 1, 1) := by decide +kernel
theorem dX12_hands_81 : decode cX12_hands 81 = .ok (.goto 4, 3) := by decide +kernel
theorem dX12_hands_84 : decode cX12_hands 84 = .ok (.iconst 0, 1) := by decide +kernel
theorem dX12_hands_85 : decode cX12_hands 85 = .ok (.istore 4, 2) := by decide +kernel
theorem dX12_hands_87 : decode cX12_hands 87 = .ok (.iload_n 2, 1) := by decide +kernel
theorem dX12_hands_88 : decode cX12_hands 88 = .ok (.iload 4, 2) := by decide +kernel
theorem dX12_hands_90 : decode cX12_hands 90 = .ok (.ifCond .eq 14, 3) := by decide +kernel
theorem dX12_hands_93 : decode cX12_hands 93 = .ok (.iconst 1, 1) := by decide +kernel
theorem dX12_hands_94 : decode cX12_hands 94 = .ok (.aload_n 0, 1) := by decide +kernel
theorem dX12_hands_95 : decode cX12_hands 95 = .ok (.getfield 57, 3) := by decide +kernel
theorem dX12_hands_98 : decode cX12_hands 98 = .ok (.iload_n 3, 1) := by decide +kernel
theorem dX12_hands_99 : decode cX12_hands 99 = .ok (.iaload, 1) := by decide +kernel
theorem dX12_hands_100 : decode cX12_hands 100 = .ok (.ishl, 1) := by decide +kernel
theorem dX12_hands_101 : decode cX12_hands 101 = .ok (.goto 4, 3) := by decide +kernel
theorem dX12_hands_104 : decode cX12_hands 104 = .ok (.iconst 0, 1) := by decide +kernel
theorem dX12_hands_105 : decode cX12_hands 105 = .ok (.ior, 1) := by decide +kernel
theorem dX12_hands_106 : decode cX12_hands 106 = .ok (.istore_n 2, 1) := by decide +kernel
theorem dX12_hands_107 : decode cX12_hands 107 = .ok (.iinc 3 1, 3) := by decide +kernel
theorem dX12_hands_110 : decode cX12_hands 110 = .ok (.goto (-85), 3) := by decide +kernel
theorem dX12_hands_113 : decode cX12_hands 113 = .ok (.iload_n 2, 1) := by decide +kernel
theorem dX12_hands_114 : decode cX12_hands 114 = .ok (.ireturn, 1) := by decide +kernel
theorem dX12_counted_0 : decode cX12_counted 0 = .ok (.iconst 0, 1) := by decide +kernel
theorem dX12_counted_1 : decode cX12_counted 1 = .ok (.istore_n 2, 1) := by decide +kernel
theorem dX12_counted_2 : decode cX12_counted 2 = .ok (.iload_n 1, 1) := by decide +kernel
theorem dX12_counted_3 : decode cX12_counted 3 = .ok (.tableswitch 122 0 8 #[49, 54, 59, 64, 69, 74, 79, 84, 89], 49) := by decide +kernel
theorem dX12_counted_52 : decode cX12_counted 52 = .ok (.aload_n 0, 1) := by decide +kernel
theorem dX12_counted_53 : decode cX12_counted 53 = .ok (.getfield 212, 3) := by decide +kernel
theorem dX12_counted_56 : decode cX12_counted 56 = .ok (.ireturn, 1) := by decide +kernel
theorem dX12_counted_57 : decode cX12_counted 57 = .ok (.aload_n 0, 1) := by decide +kernel
theorem dX12_counted_58 : decode cX12_counted 58 = .ok (.getfield 206, 3) := by decide +kernel
theorem dX12_counted_61 : decode cX12_counted 61 = .ok (.ireturn, 1) := by decide +kernel
theorem dX12_counted_62 : decode cX12_counted 62 = .ok (.aload_n 0, 1) := by decide +kernel
theorem dX12_counted_63 : decode cX12_counted 63 = .ok (.getfield 286, 3) := by decide +kernel
theorem dX12_counted_66 : decode cX12_counted 66 = .ok (.ireturn, 1) := by decide +kernel
theorem dX12_counted_67 : decode cX12_counted 67 = .ok (.aload_n 0, 1) := by decide +kernel
theorem dX12_counted_68 : decode cX12_counted 68 = .ok (.getfield 269, 3) := by decide +kernel
theorem dX12_counted_71 : decode cX12_counted 71 = .ok (.ireturn, 1) := by decide +kernel
theorem dX12_counted_72 : decode cX12_counted 72 = .ok (.aload_n 0, 1) := by decide +kernel
theorem dX12_counted_73 : decode cX12_counted 73 = .ok (.getfield 337, 3) := by decide +kernel
theorem dX12_counted_76 : decode cX12_counted 76 = .ok (.ireturn, 1) := by decide +kernel
theorem dX12_counted_77 : decode cX12_counted 77 = .ok (.aload_n 0, 1) := by decide +kernel
theorem dX12_counted_78 : decode cX12_counted 78 = .ok (.getfield 307, 3) := by decide +kernel
theorem dX12_counted_81 : decode cX12_counted 81 = .ok (.ireturn, 1) := by decide +kernel
theorem dX12_counted_82 : decode cX12_counted 82 = .ok (.aload_n 0, 1) := by decide +kernel
theorem dX12_counted_83 : decode cX12_counted 83 = .ok (.getfield 209, 3) := by decide +kernel
theorem dX12_counted_86 : decode cX12_counted 86 = .ok (.ireturn, 1) := by decide +kernel
theorem dX12_counted_87 : decode cX12_counted 87 = .ok (.aload_n 0, 1) := by decide +kernel
theorem dX12_counted_88 : decode cX12_counted 88 = .ok (.getfield 392, 3) := by decide +kernel
theorem dX12_counted_91 : decode cX12_counted 91 = .ok (.ireturn, 1) := by decide +kernel
theorem dX12_counted_92 : decode cX12_counted 92 = .ok (.iconst 0, 1) := by decide +kernel
theorem dX12_counted_93 : decode cX12_counted 93 = .ok (.istore_n 3, 1) := by decide +kernel
theorem dX12_counted_94 : decode cX12_counted 94 = .ok (.iload_n 3, 1) := by decide +kernel
theorem dX12_counted_95 : decode cX12_counted 95 = .ok (.bipush 6, 2) := by decide +kernel
theorem dX12_counted_97 : decode cX12_counted 97 = .ok (.if_icmp .ge 26, 3) := by decide +kernel
theorem dX12_counted_100 : decode cX12_counted 100 = .ok (.iload_n 2, 1) := by decide +kernel
theorem dX12_counted_101 : decode cX12_counted 101 = .ok (.aload_n 0, 1) := by decide +kernel
theorem dX12_counted_102 : decode cX12_counted 102 = .ok (.getfield 13, 3) := by decide +kernel
theorem dX12_counted_105 : decode cX12_counted 105 = .ok (.iload_n 3, 1) := by decide +kernel
theorem dX12_counted_106 : decode cX12_counted 106 = .ok (.iaload, 1) := by decide +kernel
theorem dX12_counted_107 : decode cX12_counted 107 = .ok (.ifCond .ge 7, 3) := by decide +kernel
theorem dX12_counted_110 : decode cX12_counted 110 = .ok (.iconst 0, 1) := by decide +kernel
theorem dX12_counted_111 : decode cX12_counted 111 = .ok (.goto 4, 3) := by decide +kernel
theorem dX12_counted_114 : decode cX12_counted 114 = .ok (.iconst 1, 1) := by decide +kernel
theorem dX12_counted_115 : decode cX12_counted 115 = .ok (.iadd, 1) := by decide +kernel
theorem dX12_counted_116 : decode cX12_counted 116 = .ok (.istore_n 2, 1) := by decide +kernel
theorem dX12_counted_117 : decode cX12_counted 117 = .ok (.iinc 3 1, 3) := by decide +kernel
theorem dX12_counted_120 : decode cX12_counted 120 = .ok (.goto (-26), 3) := by decide +kernel
theorem dX12_counted_123 : decode cX12_counted 123 = .ok (.iload_n 2, 1) := by decide +kernel
theorem dX12_counted_124 : decode cX12_counted 124 = .ok (.ireturn, 1) := by decide +kernel
theorem dX12_counted_125 : decode cX12_counted 125 = .ok (.iconst 0, 1) := by decide +kernel
theorem dX12_counted_126 : decode cX12_counted 126 = .ok (.istore_n 3, 1) := by decide +kernel
theorem dX12_counted_127 : decode cX12_counted 127 = .ok (.iload_n 3, 1) := by decide +kernel
theorem dX12_counted_128 : decode cX12_counted 128 = .ok (.iconst 4, 1) := by decide +kernel
theorem dX12_counted_129 : decode cX12_counted 129 = .ok (.if_icmp .ge 26, 3) := by decide +kernel
theorem dX12_counted_132 : decode cX12_counted 132 = .ok (.iload_n 2, 1) := by decide +kernel
theorem dX12_counted_133 : decode cX12_counted 133 = .ok (.aload_n 0, 1) := by decide +kernel
theorem dX12_counted_134 : decode cX12_counted 134 = .ok (.getfield 22, 3) := by decide +kernel
theorem dX12_counted_137 : decode cX12_counted 137 = .ok (.iload_n 3, 1) := by decide +kernel
theorem dX12_counted_138 : decode cX12_counted 138 = .ok (.iaload, 1) := by decide +kernel
theorem dX12_counted_139 : decode cX12_counted 139 = .ok (.ifCond .ge 7, 3) := by decide +kernel
theorem dX12_counted_142 : decode cX12_counted 142 = .ok (.iconst 0, 1) := by decide +kernel
theorem dX12_counted_143 : decode cX12_counted 143 = .ok (.goto 4, 3) := by decide +kernel
theorem dX12_counted_146 : decode cX12_counted 146 = .ok (.iconst 1, 1) := by decide +kernel
theorem dX12_counted_147 : decode cX12_counted 147 = .ok (.iadd, 1) := by decide +kernel
theorem dX12_counted_148 : decode cX12_counted 148 = .ok (.istore_n 2, 1) := by decide +kernel
theorem dX12_counted_149 : decode cX12_counted 149 = .ok (.iinc 3 1, 3) := by decide +kernel
theorem dX12_counted_152 : decode cX12_counted 152 = .ok (.goto (-25), 3) := by decide +kernel
theorem dX12_counted_155 : decode cX12_counted 155 = .ok (.iload_n 2, 1) := by decide +kernel
theorem dX12_counted_156 : decode cX12_counted 156 = .ok (.ireturn, 1) := by decide +kernel
theorem dX12_count_0 : decode cX12_count 0 = .ok (.iload_n 1, 1) := by decide +kernel
theorem dX12_count_1 : decode cX12_count 1 = .ok (.iconst 0, 1) := by decide +kernel
theorem dX12_count_2 : decode cX12_count 2 = .ok (.bipush 9, 2) := by decide +kernel
theorem dX12_count_4 : decode cX12_count 4 = .ok (.invokestatic 168, 3) := by decide +kernel
theorem dX12_count_7 : decode cX12_count 7 = .ok (.ifCond .eq 11, 3) := by decide +kernel
theorem dX12_count_10 : decode cX12_count 10 = .ok (.aload_n 0, 1) := by decide +kernel
theorem dX12_count_11 : decode cX12_count 11 = .ok (.iload_n 1, 1) := by decide +kernel
theorem dX12_count_12 : decode cX12_count 12 = .ok (.invokevirtual 404, 3) := by decide +kernel
theorem dX12_count_15 : decode cX12_count 15 = .ok (.goto 4, 3) := by decide +kernel
theorem dX12_count_18 : decode cX12_count 18 = .ok (.iconst (-1), 1) := by decide +kernel
theorem dX12_count_19 : decode cX12_count 19 = .ok (.ireturn, 1) := by decide +kernel
theorem dX12_mix_0 : decode cX12_mix 0 = .ok (.aload_n 0, 1) := by decide +kernel
theorem dX12_mix_1 : decode cX12_mix 1 = .ok (.ldc2_w 407, 3) := by decide +kernel
theorem dX12_mix_4 : decode cX12_mix 4 = .ok (.aload_n 0, 1) := by decide +kernel
theorem dX12_mix_5 : decode cX12_mix 5 = .ok (.getfield 409, 3) := by decide +kernel
theorem dX12_mix_8 : decode cX12_mix 8 = .ok (.lmul, 1) := by decide +kernel
theorem dX12_mix_9 : decode cX12_mix 9 = .ok (.lload_n 1, 1) := by decide +kernel
theorem dX12_mix_10 : decode cX12_mix 10 = .ok (.ladd, 1) := by decide +kernel
theorem dX12_mix_11 : decode cX12_mix 11 = .ok (.putfield 409, 3) := by decide +kernel
theorem dX12_mix_14 : decode cX12_mix 14 = .ok (.return_, 1) := by decide +kernel
theorem dX12_mixDesk_0 : decode cX12_mixDesk 0 = .ok (.iconst 0, 1) := by decide +kernel
theorem dX12_mixDesk_1 : decode cX12_mixDesk 1 = .ok (.istore_n 1, 1) := by decide +kernel
theorem dX12_mixDesk_2 : decode cX12_mixDesk 2 = .ok (.iload_n 1, 1) := by decide +kernel
theorem dX12_mixDesk_3 : decode cX12_mixDesk 3 = .ok (.aload_n 0, 1) := by decide +kernel
theorem dX12_mixDesk_4 : decode cX12_mixDesk 4 = .ok (.getfield 206, 3) := by decide +kernel
theorem dX12_mixDesk_7 : decode cX12_mixDesk 7 = .ok (.if_icmp .ge 43, 3) := by decide +kernel
theorem dX12_mixDesk_10 : decode cX12_mixDesk 10 = .ok (.iconst 0, 1) := by decide +kernel
theorem dX12_mixDesk_11 : decode cX12_mixDesk 11 = .ok (.istore_n 2, 1) := by decide +kernel
theorem dX12_mixDesk_12 : decode cX12_mixDesk 12 = .ok (.iload_n 2, 1) := by decide +kernel
theorem dX12_mixDesk_13 : decode cX12_mixDesk 13 = .ok (.iconst 5, 1) := by decide +kernel
theorem dX12_mixDesk_14 : decode cX12_mixDesk 14 = .ok (.if_icmp .ge 20, 3) := by decide +kernel
theorem dX12_mixDesk_17 : decode cX12_mixDesk 17 = .ok (.aload_n 0, 1) := by decide +kernel
theorem dX12_mixDesk_18 : decode cX12_mixDesk 18 = .ok (.aload_n 0, 1) := by decide +kernel
theorem dX12_mixDesk_19 : decode cX12_mixDesk 19 = .ok (.iload_n 1, 1) := by decide +kernel
theorem dX12_mixDesk_20 : decode cX12_mixDesk 20 = .ok (.iload_n 2, 1) := by decide +kernel
theorem dX12_mixDesk_21 : decode cX12_mixDesk 21 = .ok (.invokevirtual 239, 3) := by decide +kernel
theorem dX12_mixDesk_24 : decode cX12_mixDesk 24 = .ok (.i2l, 1) := by decide +kernel
theorem dX12_mixDesk_25 : decode cX12_mixDesk 25 = .ok (.invokevirtual 412, 3) := by decide +kernel
theorem dX12_mixDesk_28 : decode cX12_mixDesk 28 = .ok (.iinc 2 1, 3) := by decide +kernel
theorem dX12_mixDesk_31 : decode cX12_mixDesk 31 = .ok (.goto (-19), 3) := by decide +kernel
theorem dX12_mixDesk_34 : decode cX12_mixDesk 34 = .ok (.aload_n 0, 1) := by decide +kernel
theorem dX12_mixDesk_35 : decode cX12_mixDesk 35 = .ok (.aload_n 0, 1) := by decide +kernel
theorem dX12_mixDesk_36 : decode cX12_mixDesk 36 = .ok (.iload_n 1, 1) := by decide +kernel
theorem dX12_mixDesk_37 : decode cX12_mixDesk 37 = .ok (.invokevirtual 242, 3) := by decide +kernel
theorem dX12_mixDesk_40 : decode cX12_mixDesk 40 = .ok (.i2l, 1) := by decide +kernel
theorem dX12_mixDesk_41 : decode cX12_mixDesk 41 = .ok (.invokevirtual 412, 3) := by decide +kernel
theorem dX12_mixDesk_44 : decode cX12_mixDesk 44 = .ok (.iinc 1 1, 3) := by decide +kernel
theorem dX12_mixDesk_47 : decode cX12_mixDesk 47 = .ok (.goto (-45), 3) := by decide +kernel
theorem dX12_mixDesk_50 : decode cX12_mixDesk 50 = .ok (.iconst 0, 1) := by decide +kernel
theorem dX12_mixDesk_51 : decode cX12_mixDesk 51 = .ok (.istore_n 1, 1) := by decide +kernel
theorem dX12_mixDesk_52 : decode cX12_mixDesk 52 = .ok (.iload_n 1, 1) := by decide +kernel
theorem dX12_mixDesk_53 : decode cX12_mixDesk 53 = .ok (.aload_n 0, 1) := by decide +kernel
theorem dX12_mixDesk_54 : decode cX12_mixDesk 54 = .ok (.getfield 286, 3) := by decide +kernel
theorem dX12_mixDesk_57 : decode cX12_mixDesk 57 = .ok (.if_icmp .ge 33, 3) := by decide +kernel
theorem dX12_mixDesk_60 : decode cX12_mixDesk 60 = .ok (.iconst 0, 1) := by decide +kernel
theorem dX12_mixDesk_61 : decode cX12_mixDesk 61 = .ok (.istore_n 2, 1) := by decide +kernel
theorem dX12_mixDesk_62 : decode cX12_mixDesk 62 = .ok (.iload_n 2, 1) := by decide +kernel
theorem dX12_mixDesk_63 : decode cX12_mixDesk 63 = .ok (.iconst 5, 1) := by decide +kernel
theorem dX12_mixDesk_64 : decode cX12_mixDesk 64 = .ok (.if_icmp .ge 20, 3) := by decide +kernel
theorem dX12_mixDesk_67 : decode cX12_mixDesk 67 = .ok (.aload_n 0, 1) := by decide +kernel
theorem dX12_mixDesk_68 : decode cX12_mixDesk 68 = .ok (.aload_n 0, 1) := by decide +kernel
theorem dX12_mixDesk_69 : decode cX12_mixDesk 69 = .ok (.iload_n 1, 1) := by decide +kernel
theorem dX12_mixDesk_70 : decode cX12_mixDesk 70 = .ok (.iload_n 2, 1) := by decide +kernel
theorem dX12_mixDesk_71 : decode cX12_mixDesk 71 = .ok (.invokevirtual 298, 3) := by decide +kernel
theorem dX12_mixDesk_74 : decode cX12_mixDesk 74 = .ok (.i2l, 1) := by decide +kernel
theorem dX12_mixDesk_75 : decode cX12_mixDesk 75 = .ok (.invokevirtual 412, 3) := by decide +kernel
theorem dX12_mixDesk_78 : decode cX12_mixDesk 78 = .ok (.iinc 2 1, 3) := by decide +kernel
theorem dX12_mixDesk_81 : decode cX12_mixDesk 81 = .ok (.goto (-19), 3) := by decide +kernel
theorem dX12_mixDesk_84 : decode cX12_mixDesk 84 = .ok (.iinc 1 1, 3) := by decide +kernel
theorem dX12_mixDesk_87 : decode cX12_mixDesk 87 = .ok (.goto (-35), 3) := by decide +kernel
theorem dX12_mixDesk_90 : decode cX12_mixDesk 90 = .ok (.iconst 0, 1) := by decide +kernel
theorem dX12_mixDesk_91 : decode cX12_mixDesk 91 = .ok (.istore_n 1, 1) := by decide +kernel
theorem dX12_mixDesk_92 : decode cX12_mixDesk 92 = .ok (.iload_n 1, 1) := by decide +kernel
theorem dX12_mixDesk_93 : decode cX12_mixDesk 93 = .ok (.iconst 3, 1) := by decide +kernel
theorem dX12_mixDesk_94 : decode cX12_mixDesk 94 = .ok (.if_icmp .ge 31, 3) := by decide +kernel
theorem dX12_mixDesk_97 : decode cX12_mixDesk 97 = .ok (.aload_n 0, 1) := by decide +kernel
theorem dX12_mixDesk_98 : decode cX12_mixDesk 98 = .ok (.aload_n 0, 1) := by decide +kernel
theorem dX12_mixDesk_99 : decode cX12_mixDesk 99 = .ok (.getfield 96, 3) := by decide +kernel
theorem dX12_mixDesk_102 : decode cX12_mixDesk 102 = .ok (.iload_n 1, 1) := by decide +kernel
theorem dX12_mixDesk_103 : decode cX12_mixDesk 103 = .ok (.iaload, 1) := by decide +kernel
theorem dX12_mixDesk_104 : decode cX12_mixDesk 104 = .ok (.i2l, 1) := by decide +kernel
theorem dX12_mixDesk_105 : decode cX12_mixDesk 105 = .ok (.invokevirtual 412, 3) := by decide +kernel
theorem dX12_mixDesk_108 : decode cX12_mixDesk 108 = .ok (.aload_n 0, 1) := by decide +kernel
theorem dX12_mixDesk_109 : decode cX12_mixDesk 109 = .ok (.aload_n 0, 1) := by decide +kernel
theorem dX12_mixDesk_110 : decode cX12_mixDesk 110 = .ok (.getfield 99, 3) := by decide +kernel
theorem dX12_mixDesk_113 : decode cX12_mixDesk 113 = .ok (.iload_n 1, 1) := by decide +kernel
theorem dX12_mixDesk_114 : decode cX12_mixDesk 114 = .ok (.iaload, 1) := by decide +kernel
theorem dX12_mixDesk_115 : decode cX12_mixDesk 115 = .ok (.i2l, 1) := by decide +kernel
theorem dX12_mixDesk_116 : decode cX12_mixDesk 116 = .ok (.invokevirtual 412, 3) := by decide +kernel
theorem dX12_mixDesk_119 : decode cX12_mixDesk 119 = .ok (.iinc 1 1, 3) := by decide +kernel
theorem dX12_mixDesk_122 : decode cX12_mixDesk 122 = .ok (.goto (-30), 3) := by decide +kernel
theorem dX12_mixDesk_125 : decode cX12_mixDesk 125 = .ok (.iconst 0, 1) := by decide +kernel
theorem dX12_mixDesk_126 : decode cX12_mixDesk 126 = .ok (.istore_n 1, 1) := by decide +kernel
theorem dX12_mixDesk_127 : decode cX12_mixDesk 127 = .ok (.iload_n 1, 1) := by decide +kernel
theorem dX12_mixDesk_128 : decode cX12_mixDesk 128 = .ok (.aload_n 0, 1) := by decide +kernel
theorem dX12_mixDesk_129 : decode cX12_mixDesk 129 = .ok (.getfield 269, 3) := by decide +kernel
theorem dX12_mixDesk_132 : decode cX12_mixDesk 132 = .ok (.if_icmp .ge 31, 3) := by decide +kernel
theorem dX12_mixDesk_135 : decode cX12_mixDesk 135 = .ok (.aload_n 0, 1) := by decide +kernel
theorem dX12_mixDesk_136 : decode cX12_mixDesk 136 = .ok (.aload_n 0, 1) := by decide +kernel
theorem dX12_mixDesk_137 : decode cX12_mixDesk 137 = .ok (.getfield 66, 3) := by decide +kernel
theorem dX12_mixDesk_140 : decode cX12_mixDesk 140 = .ok (.iload_n 1, 1) := by decide +kernel
theorem dX12_mixDesk_141 : decode cX12_mixDesk 141 = .ok (.iaload, 1) := by decide +kernel
theorem dX12_mixDesk_142 : decode cX12_mixDesk 142 = .ok (.i2l, 1) := by decide +kernel
theorem dX12_mixDesk_143 : decode cX12_mixDesk 143 = .ok (.invokevirtual 412, 3) := by decide +kernel
theorem dX12_mixDesk_146 : decode cX12_mixDesk 146 = .ok (.aload_n 0, 1) := by decide +kernel
theorem dX12_mixDesk_147 : decode cX12_mixDesk 147 = .ok (.aload_n 0, 1) := by decide +kernel
theorem dX12_mixDesk_148 : decode cX12_mixDesk 148 = .ok (.getfield 69, 3) := by decide +kernel
theorem dX12_mixDesk_151 : decode cX12_mixDesk 151 = .ok (.iload_n 1, 1) := by decide +kernel
theorem dX12_mixDesk_152 : decode cX12_mixDesk 152 = .ok (.iaload, 1) := by decide +kernel
theorem dX12_mixDesk_153 : decode cX12_mixDesk 153 = .ok (.i2l, 1) := by decide +kernel
theorem dX12_mixDesk_154 : decode cX12_mixDesk 154 = .ok (.invokevirtual 412, 3) := by decide +kernel
theorem dX12_mixDesk_157 : decode cX12_mixDesk 157 = .ok (.iinc 1 1, 3) := by decide +kernel
theorem dX12_mixDesk_160 : decode cX12_mixDesk 160 = .ok (.goto (-33), 3) := by decide +kernel
theorem dX12_mixDesk_163 : decode cX12_mixDesk 163 = .ok (.return_, 1) := by decide +kernel
theorem dX12_mixLists_0 : decode cX12_mixLists 0 = .ok (.iconst 0, 1) := by decide +kernel
theorem dX12_mixLists_1 : decode cX12_mixLists 1 = .ok (.istore_n 1, 1) := by decide +kernel
theorem dX12_mixLists_2 : decode cX12_mixLists 2 = .ok (.iload_n 1, 1) := by decide +kernel
theorem dX12_mixLists_3 : decode cX12_mixLists 3 = .ok (.aload_n 0, 1) := by decide +kernel
theorem dX12_mixLists_4 : decode cX12_mixLists 4 = .ok (.getfield 337, 3) := by decide +kernel
theorem dX12_mixLists_7 : decode cX12_mixLists 7 = .ok (.if_icmp .ge 64, 3) := by decide +kernel
theorem dX12_mixLists_10 : decode cX12_mixLists 10 = .ok (.aload_n 0, 1) := by decide +kernel
theorem dX12_mixLists_11 : decode cX12_mixLists 11 = .ok (.aload_n 0, 1) := by decide +kernel
theorem dX12_mixLists_12 : decode cX12_mixLists 12 = .ok (.getfield 120, 3) := by decide +kernel
theorem dX12_mixLists_15 : decode cX12_mixLists 15 = .ok (.iload_n 1, 1) := by decide +kernel
theorem dX12_mixLists_16 : decode cX12_mixLists 16 = .ok (.iaload, 1) := by decide +kernel
theorem dX12_mixLists_17 : decode cX12_mixLists 17 = .ok (.i2l, 1) := by decide +kernel
theorem dX12_mixLists_18 : decode cX12_mixLists 18 = .ok (.invokevirtual 412, 3) := by decide +kernel
theorem dX12_mixLists_21 : decode cX12_mixLists 21 = .ok (.aload_n 0, 1) := by decide +kernel
theorem dX12_mixLists_22 : decode cX12_mixLists 22 = .ok (.aload_n 0, 1) := by decide +kernel
theorem dX12_mixLists_23 : decode cX12_mixLists 23 = .ok (.getfield 123, 3) := by decide +kernel
theorem dX12_mixLists_26 : decode cX12_mixLists 26 = .ok (.iload_n 1, 1) := by decide +kernel
theorem dX12_mixLists_27 : decode cX12_mixLists 27 = .ok (.iaload, 1) := by decide +kernel
theorem dX12_mixLists_28 : decode cX12_mixLists 28 = .ok (.i2l, 1) := by decide +kernel
theorem dX12_mixLists_29 : decode cX12_mixLists 29 = .ok (.invokevirtual 412, 3) := by decide +kernel
theorem dX12_mixLists_32 : decode cX12_mixLists 32 = .ok (.aload_n 0, 1) := by decide +kernel
theorem dX12_mixLists_33 : decode cX12_mixLists 33 = .ok (.aload_n 0, 1) := by decide +kernel
theorem dX12_mixLists_34 : decode cX12_mixLists 34 = .ok (.getfield 126, 3) := by decide +kernel
theorem dX12_mixLists_37 : decode cX12_mixLists 37 = .ok (.iload_n 1, 1) := by decide +kernel
theorem dX12_mixLists_38 : decode cX12_mixLists 38 = .ok (.iaload, 1) := by decide +kernel
theorem dX12_mixLists_39 : decode cX12_mixLists 39 = .ok (.i2l, 1) := by decide +kernel
theorem dX12_mixLists_40 : decode cX12_mixLists 40 = .ok (.invokevirtual 412, 3) := by decide +kernel
theorem dX12_mixLists_43 : decode cX12_mixLists 43 = .ok (.aload_n 0, 1) := by decide +kernel
theorem dX12_mixLists_44 : decode cX12_mixLists 44 = .ok (.aload_n 0, 1) := by decide +kernel
theorem dX12_mixLists_45 : decode cX12_mixLists 45 = .ok (.getfield 129, 3) := by decide +kernel
theorem dX12_mixLists_48 : decode cX12_mixLists 48 = .ok (.iload_n 1, 1) := by decide +kernel
theorem dX12_mixLists_49 : decode cX12_mixLists 49 = .ok (.iaload, 1) := by decide +kernel
theorem dX12_mixLists_50 : decode cX12_mixLists 50 = .ok (.i2l, 1) := by decide +kernel
theorem dX12_mixLists_51 : decode cX12_mixLists 51 = .ok (.invokevirtual 412, 3) := by decide +kernel
theorem dX12_mixLists_54 : decode cX12_mixLists 54 = .ok (.aload_n 0, 1) := by decide +kernel
theorem dX12_mixLists_55 : decode cX12_mixLists 55 = .ok (.aload_n 0, 1) := by decide +kernel
theorem dX12_mixLists_56 : decode cX12_mixLists 56 = .ok (.getfield 132, 3) := by decide +kernel
theorem dX12_mixLists_59 : decode cX12_mixLists 59 = .ok (.iload_n 1, 1) := by decide +kernel
theorem dX12_mixLists_60 : decode cX12_mixLists 60 = .ok (.iaload, 1) := by decide +kernel
theorem dX12_mixLists_61 : decode cX12_mixLists 61 = .ok (.i2l, 1) := by decide +kernel
theorem dX12_mixLists_62 : decode cX12_mixLists 62 = .ok (.invokevirtual 412, 3) := by decide +kernel
theorem dX12_mixLists_65 : decode cX12_mixLists 65 = .ok (.iinc 1 1, 3) := by decide +kernel
theorem dX12_mixLists_68 : decode cX12_mixLists 68 = .ok (.goto (-66), 3) := by decide +kernel
theorem dX12_mixLists_71 : decode cX12_mixLists 71 = .ok (.iconst 0, 1) := by decide +kernel
theorem dX12_mixLists_72 : decode cX12_mixLists 72 = .ok (.istore_n 1, 1) := by decide +kernel
theorem dX12_mixLists_73 : decode cX12_mixLists 73 = .ok (.iload_n 1, 1) := by decide +kernel
theorem dX12_mixLists_74 : decode cX12_mixLists 74 = .ok (.aload_n 0, 1) := by decide +kernel
theorem dX12_mixLists_75 : decode cX12_mixLists 75 = .ok (.getfield 307, 3) := by decide +kernel
theorem dX12_mixLists_78 : decode cX12_mixLists 78 = .ok (.if_icmp .ge 42, 3) := by decide +kernel
theorem dX12_mixLists_81 : decode cX12_mixLists 81 = .ok (.aload_n 0, 1) := by decide +kernel
theorem dX12_mixLists_82 : decode cX12_mixLists 82 = .ok (.aload_n 0, 1) := by decide +kernel
theorem dX12_mixLists_83 : decode cX12_mixLists 83 = .ok (.getfield 102, 3) := by decide +kernel
theorem dX12_mixLists_86 : decode cX12_mixLists 86 = .ok (.iload_n 1, 1) := by decide +kernel
theorem dX12_mixLists_87 : decode cX12_mixLists 87 = .ok (.iaload, 1) := by decide +kernel
theorem dX12_mixLists_88 : decode cX12_mixLists 88 = .ok (.i2l, 1) := by decide +kernel
theorem dX12_mixLists_89 : decode cX12_mixLists 89 = .ok (.invokevirtual 412, 3) := by decide +kernel
theorem dX12_mixLists_92 : decode cX12_mixLists 92 = .ok (.aload_n 0, 1) := by decide +kernel
theorem dX12_mixLists_93 : decode cX12_mixLists 93 = .ok (.aload_n 0, 1) := by decide +kernel
theorem dX12_mixLists_94 : decode cX12_mixLists 94 = .ok (.getfield 105, 3) := by decide +kernel
theorem dX12_mixLists_97 : decode cX12_mixLists 97 = .ok (.iload_n 1, 1) := by decide +kernel
theorem dX12_mixLists_98 : decode cX12_mixLists 98 = .ok (.iaload, 1) := by decide +kernel
theorem dX12_mixLists_99 : decode cX12_mixLists 99 = .ok (.i2l, 1) := by decide +kernel
theorem dX12_mixLists_100 : decode cX12_mixLists 100 = .ok (.invokevirtual 412, 3) := by decide +kernel
theorem dX12_mixLists_103 : decode cX12_mixLists 103 = .ok (.aload_n 0, 1) := by decide +kernel
theorem dX12_mixLists_104 : decode cX12_mixLists 104 = .ok (.aload_n 0, 1) := by decide +kernel
theorem dX12_mixLists_105 : decode cX12_mixLists 105 = .ok (.getfield 108, 3) := by decide +kernel
theorem dX12_mixLists_108 : decode cX12_mixLists 108 = .ok (.iload_n 1, 1) := by decide +kernel
theorem dX12_mixLists_109 : decode cX12_mixLists 109 = .ok (.iaload, 1) := by decide +kernel
theorem dX12_mixLists_110 : decode cX12_mixLists 110 = .ok (.i2l, 1) := by decide +kernel
theorem dX12_mixLists_111 : decode cX12_mixLists 111 = .ok (.invokevirtual 412, 3) := by decide +kernel
theorem dX12_mixLists_114 : decode cX12_mixLists 114 = .ok (.iinc 1 1, 3) := by decide +kernel
theorem dX12_mixLists_117 : decode cX12_mixLists 117 = .ok (.goto (-44), 3) := by decide +kernel
theorem dX12_mixLists_120 : decode cX12_mixLists 120 = .ok (.iconst 0, 1) := by decide +kernel
theorem dX12_mixLists_121 : decode cX12_mixLists 121 = .ok (.istore_n 1, 1) := by decide +kernel
theorem dX12_mixLists_122 : decode cX12_mixLists 122 = .ok (.iload_n 1, 1) := by decide +kernel
theorem dX12_mixLists_123 : decode cX12_mixLists 123 = .ok (.aload_n 0, 1) := by decide +kernel
theorem dX12_mixLists_124 : decode cX12_mixLists 124 = .ok (.getfield 209, 3) := by decide +kernel
theorem dX12_mixLists_127 : decode cX12_mixLists 127 = .ok (.if_icmp .ge 53, 3) := by decide +kernel
theorem dX12_mixLists_130 : decode cX12_mixLists 130 = .ok (.aload_n 0, 1) := by decide +kernel
theorem dX12_mixLists_131 : decode cX12_mixLists 131 = .ok (.aload_n 0, 1) := by decide +kernel
theorem dX12_mixLists_132 : decode cX12_mixLists 132 = .ok (.getfield 54, 3) := by decide +kernel
theorem dX12_mixLists_135 : decode cX12_mixLists 135 = .ok (.iload_n 1, 1) := by decide +kernel
theorem dX12_mixLists_136 : decode cX12_mixLists 136 = .ok (.iaload, 1) := by decide +kernel
theorem dX12_mixLists_137 : decode cX12_mixLists 137 = .ok (.i2l, 1) := by decide +kernel
theorem dX12_mixLists_138 : decode cX12_mixLists 138 = .ok (.invokevirtual 412, 3) := by decide +kernel
theorem dX12_mixLists_141 : decode cX12_mixLists 141 = .ok (.aload_n 0, 1) := by decide +kernel
theorem dX12_mixLists_142 : decode cX12_mixLists 142 = .ok (.aload_n 0, 1) := by decide +kernel
theorem dX12_mixLists_143 : decode cX12_mixLists 143 = .ok (.getfield 57, 3) := by decide +kernel
theorem dX12_mixLists_146 : decode cX12_mixLists 146 = .ok (.iload_n 1, 1) := by decide +kernel
theorem dX12_mixLists_147 : decode cX12_mixLists 147 = .ok (.iaload, 1) := by decide +kernel
theorem dX12_mixLists_148 : decode cX12_mixLists 148 = .ok (.i2l, 1) := by decide +kernel
theorem dX12_mixLists_149 : decode cX12_mixLists 149 = .ok (.invokevirtual 412, 3) := by decide +kernel
theorem dX12_mixLists_152 : decode cX12_mixLists 152 = .ok (.aload_n 0, 1) := by decide +kernel
theorem dX12_mixLists_153 : decode cX12_mixLists 153 = .ok (.aload_n 0, 1) := by decide +kernel
theorem dX12_mixLists_154 : decode cX12_mixLists 154 = .ok (.getfield 60, 3) := by decide +kernel
theorem dX12_mixLists_157 : decode cX12_mixLists 157 = .ok (.iload_n 1, 1) := by decide +kernel
theorem dX12_mixLists_158 : decode cX12_mixLists 158 = .ok (.iaload, 1) := by decide +kernel
theorem dX12_mixLists_159 : decode cX12_mixLists 159 = .ok (.i2l, 1) := by decide +kernel
theorem dX12_mixLists_160 : decode cX12_mixLists 160 = .ok (.invokevirtual 412, 3) := by decide +kernel
theorem dX12_mixLists_163 : decode cX12_mixLists 163 = .ok (.aload_n 0, 1) := by decide +kernel
theorem dX12_mixLists_164 : decode cX12_mixLists 164 = .ok (.aload_n 0, 1) := by decide +kernel
theorem dX12_mixLists_165 : decode cX12_mixLists 165 = .ok (.getfield 63, 3) := by decide +kernel
theorem dX12_mixLists_168 : decode cX12_mixLists 168 = .ok (.iload_n 1, 1) := by decide +kernel
theorem dX12_mixLists_169 : decode cX12_mixLists 169 = .ok (.iaload, 1) := by decide +kernel
theorem dX12_mixLists_170 : decode cX12_mixLists 170 = .ok (.i2l, 1) := by decide +kernel
theorem dX12_mixLists_171 : decode cX12_mixLists 171 = .ok (.invokevirtual 412, 3) := by decide +kernel
theorem dX12_mixLists_174 : decode cX12_mixLists 174 = .ok (.iinc 1 1, 3) := by decide +kernel
theorem dX12_mixLists_177 : decode cX12_mixLists 177 = .ok (.goto (-55), 3) := by decide +kernel
theorem dX12_mixLists_180 : decode cX12_mixLists 180 = .ok (.iconst 0, 1) := by decide +kernel
theorem dX12_mixLists_181 : decode cX12_mixLists 181 = .ok (.istore_n 1, 1) := by decide +kernel
theorem dX12_mixLists_182 : decode cX12_mixLists 182 = .ok (.iload_n 1, 1) := by decide +kernel
theorem dX12_mixLists_183 : decode cX12_mixLists 183 = .ok (.aload_n 0, 1) := by decide +kernel
theorem dX12_mixLists_184 : decode cX12_mixLists 184 = .ok (.getfield 392, 3) := by decide +kernel
theorem dX12_mixLists_187 : decode cX12_mixLists 187 = .ok (.if_icmp .ge 31, 3) := by decide +kernel
theorem dX12_mixLists_190 : decode cX12_mixLists 190 = .ok (.aload_n 0, 1) := by decide +kernel
theorem dX12_mixLists_191 : decode cX12_mixLists 191 = .ok (.aload_n 0, 1) := by decide +kernel
theorem dX12_mixLists_192 : decode cX12_mixLists 192 = .ok (.getfield 154, 3) := by decide +kernel
theorem dX12_mixLists_195 : decode cX12_mixLists 195 = .ok (.iload_n 1, 1) := by decide +kernel
theorem dX12_mixLists_196 : decode cX12_mixLists 196 = .ok (.iaload, 1) := by decide +kernel
theorem dX12_mixLists_197 : decode cX12_mixLists 197 = .ok (.i2l, 1) := by decide +kernel
theorem dX12_mixLists_198 : decode cX12_mixLists 198 = .ok (.invokevirtual 412, 3) := by decide +kernel
theorem dX12_mixLists_201 : decode cX12_mixLists 201 = .ok (.aload_n 0, 1) := by decide +kernel
theorem dX12_mixLists_202 : decode cX12_mixLists 202 = .ok (.aload_n 0, 1) := by decide +kernel
theorem dX12_mixLists_203 : decode cX12_mixLists 203 = .ok (.getfield 157, 3) := by decide +kernel
theorem dX12_mixLists_206 : decode cX12_mixLists 206 = .ok (.iload_n 1, 1) := by decide +kernel
theorem dX12_mixLists_207 : decode cX12_mixLists 207 = .ok (.iaload, 1) := by decide +kernel
theorem dX12_mixLists_208 : decode cX12_mixLists 208 = .ok (.i2l, 1) := by decide +kernel
theorem dX12_mixLists_209 : decode cX12_mixLists 209 = .ok (.invokevirtual 412, 3) := by decide +kernel
theorem dX12_mixLists_212 : decode cX12_mixLists 212 = .ok (.iinc 1 1, 3) := by decide +kernel
theorem dX12_mixLists_215 : decode cX12_mixLists 215 = .ok (.goto (-33), 3) := by decide +kernel
theorem dX12_mixLists_218 : decode cX12_mixLists 218 = .ok (.return_, 1) := by decide +kernel
theorem dX12_digest_0 : decode cX12_digest 0 = .ok (.aload_n 0, 1) := by decide +kernel
theorem dX12_digest_1 : decode cX12_digest 1 = .ok (.ldc2_w 416, 3) := by decide +kernel
theorem dX12_digest_4 : decode cX12_digest 4 = .ok (.putfield 409, 3) := by decide +kernel
theorem dX12_digest_7 : decode cX12_digest 7 = .ok (.iconst 0, 1) := by decide +kernel
theorem dX12_digest_8 : decode cX12_digest 8 = .ok (.istore_n 1, 1) := by decide +kernel
theorem dX12_digest_9 : decode cX12_digest 9 = .ok (.iload_n 1, 1) := by decide +kernel
theorem dX12_digest_10 : decode cX12_digest 10 = .ok (.bipush 10, 2) := by decide +kernel
theorem dX12_digest_12 : decode cX12_digest 12 = .ok (.if_icmp .ge 19, 3) := by decide +kernel
theorem dX12_digest_15 : decode cX12_digest 15 = .ok (.aload_n 0, 1) := by decide +kernel
theorem dX12_digest_16 : decode cX12_digest 16 = .ok (.aload_n 0, 1) := by decide +kernel
theorem dX12_digest_17 : decode cX12_digest 17 = .ok (.iload_n 1, 1) := by decide +kernel
theorem dX12_digest_18 : decode cX12_digest 18 = .ok (.invokevirtual 404, 3) := by decide +kernel
theorem dX12_digest_21 : decode cX12_digest 21 = .ok (.i2l, 1) := by decide +kernel
theorem dX12_digest_22 : decode cX12_digest 22 = .ok (.invokevirtual 412, 3) := by decide +kernel
theorem dX12_digest_25 : decode cX12_digest 25 = .ok (.iinc 1 1, 3) := by decide +kernel
theorem dX12_digest_28 : decode cX12_digest 28 = .ok (.goto (-19), 3) := by decide +kernel
theorem dX12_digest_31 : decode cX12_digest 31 = .ok (.aload_n 0, 1) := by decide +kernel
theorem dX12_digest_32 : decode cX12_digest 32 = .ok (.invokevirtual 418, 3) := by decide +kernel
theorem dX12_digest_35 : decode cX12_digest 35 = .ok (.aload_n 0, 1) := by decide +kernel
theorem dX12_digest_36 : decode cX12_digest 36 = .ok (.invokevirtual 421, 3) := by decide +kernel
theorem dX12_digest_39 : decode cX12_digest 39 = .ok (.iconst 0, 1) := by decide +kernel
theorem dX12_digest_40 : decode cX12_digest 40 = .ok (.istore_n 1, 1) := by decide +kernel
theorem dX12_digest_41 : decode cX12_digest 41 = .ok (.iload_n 1, 1) := by decide +kernel
theorem dX12_digest_42 : decode cX12_digest 42 = .ok (.bipush 6, 2) := by decide +kernel
theorem dX12_digest_44 : decode cX12_digest 44 = .ok (.if_icmp .ge 49, 3) := by decide +kernel
theorem dX12_digest_47 : decode cX12_digest 47 = .ok (.aload_n 0, 1) := by decide +kernel
theorem dX12_digest_48 : decode cX12_digest 48 = .ok (.aload_n 0, 1) := by decide +kernel
theorem dX12_digest_49 : decode cX12_digest 49 = .ok (.getfield 13, 3) := by decide +kernel
theorem dX12_digest_52 : decode cX12_digest 52 = .ok (.iload_n 1, 1) := by decide +kernel
theorem dX12_digest_53 : decode cX12_digest 53 = .ok (.iaload, 1) := by decide +kernel
theorem dX12_digest_54 : decode cX12_digest 54 = .ok (.i2l, 1) := by decide +kernel
theorem dX12_digest_55 : decode cX12_digest 55 = .ok (.invokevirtual 412, 3) := by decide +kernel
theorem dX12_digest_58 : decode cX12_digest 58 = .ok (.iconst 0, 1) := by decide +kernel
theorem dX12_digest_59 : decode cX12_digest 59 = .ok (.istore_n 2, 1) := by decide +kernel
theorem dX12_digest_60 : decode cX12_digest 60 = .ok (.iload_n 2, 1) := by decide +kernel
theorem dX12_digest_61 : decode cX12_digest 61 = .ok (.aload_n 0, 1) := by decide +kernel
theorem dX12_digest_62 : decode cX12_digest 62 = .ok (.getfield 13, 3) := by decide +kernel
theorem dX12_digest_65 : decode cX12_digest 65 = .ok (.iload_n 1, 1) := by decide +kernel
theorem dX12_digest_66 : decode cX12_digest 66 = .ok (.iaload, 1) := by decide +kernel
theorem dX12_digest_67 : decode cX12_digest 67 = .ok (.if_icmp .ge 20, 3) := by decide +kernel
theorem dX12_digest_70 : decode cX12_digest 70 = .ok (.aload_n 0, 1) := by decide +kernel
theorem dX12_digest_71 : decode cX12_digest 71 = .ok (.aload_n 0, 1) := by decide +kernel
theorem dX12_digest_72 : decode cX12_digest 72 = .ok (.iload_n 1, 1) := by decide +kernel
theorem dX12_digest_73 : decode cX12_digest 73 = .ok (.iload_n 2, 1) := by decide +kernel
theorem dX12_digest_74 : decode cX12_digest 74 = .ok (.invokevirtual 186, 3) := by decide +kernel
theorem dX12_digest_77 : decode cX12_digest 77 = .ok (.i2l, 1) := by decide +kernel
theorem dX12_digest_78 : decode cX12_digest 78 = .ok (.invokevirtual 412, 3) := by decide +kernel
theorem dX12_digest_81 : decode cX12_digest 81 = .ok (.iinc 2 1, 3) := by decide +kernel
theorem dX12_digest_84 : decode cX12_digest 84 = .ok (.goto (-24), 3) := by decide +kernel
theorem dX12_digest_87 : decode cX12_digest 87 = .ok (.iinc 1 1, 3) := by decide +kernel
theorem dX12_digest_90 : decode cX12_digest 90 = .ok (.goto (-49), 3) := by decide +kernel
theorem dX12_digest_93 : decode cX12_digest 93 = .ok (.iconst 0, 1) := by decide +kernel
theorem dX12_digest_94 : decode cX12_digest 94 = .ok (.istore_n 1, 1) := by decide +kernel
theorem dX12_digest_95 : decode cX12_digest 95 = .ok (.iload_n 1, 1) := by decide +kernel
theorem dX12_digest_96 : decode cX12_digest 96 = .ok (.iconst 4, 1) := by decide +kernel
theorem dX12_digest_97 : decode cX12_digest 97 = .ok (.if_icmp .ge 49, 3) := by decide +kernel
theorem dX12_digest_100 : decode cX12_digest 100 = .ok (.aload_n 0, 1) := by decide +kernel
theorem dX12_digest_101 : decode cX12_digest 101 = .ok (.aload_n 0, 1) := by decide +kernel
theorem dX12_digest_102 : decode cX12_digest 102 = .ok (.getfield 22, 3) := by decide +kernel
theorem dX12_digest_105 : decode cX12_digest 105 = .ok (.iload_n 1, 1) := by decide +kernel
theorem dX12_digest_106 : decode cX12_digest 106 = .ok (.iaload, 1) := by decide +kernel
theorem dX12_digest_107 : decode cX12_digest 107 = .ok (.i2l, 1) := by decide +kernel
theorem dX12_digest_108 : decode cX12_digest 108 = .ok (.invokevirtual 412, 3) := by decide +kernel
theorem dX12_digest_111 : decode cX12_digest 111 = .ok (.iconst 0, 1) := by decide +kernel
theorem dX12_digest_112 : decode cX12_digest 112 = .ok (.istore_n 2, 1) := by decide +kernel
theorem dX12_digest_113 : decode cX12_digest 113 = .ok (.iload_n 2, 1) := by decide +kernel
theorem dX12_digest_114 : decode cX12_digest 114 = .ok (.aload_n 0, 1) := by decide +kernel
theorem dX12_digest_115 : decode cX12_digest 115 = .ok (.getfield 22, 3) := by decide +kernel
theorem dX12_digest_118 : decode cX12_digest 118 = .ok (.iload_n 1, 1) := by decide +kernel
theorem dX12_digest_119 : decode cX12_digest 119 = .ok (.iaload, 1) := by decide +kernel
theorem dX12_digest_120 : decode cX12_digest 120 = .ok (.if_icmp .ge 20, 3) := by decide +kernel
theorem dX12_digest_123 : decode cX12_digest 123 = .ok (.aload_n 0, 1) := by decide +kernel
theorem dX12_digest_124 : decode cX12_digest 124 = .ok (.aload_n 0, 1) := by decide +kernel
theorem dX12_digest_125 : decode cX12_digest 125 = .ok (.iload_n 1, 1) := by decide +kernel
theorem dX12_digest_126 : decode cX12_digest 126 = .ok (.iload_n 2, 1) := by decide +kernel
theorem dX12_digest_127 : decode cX12_digest 127 = .ok (.invokevirtual 202, 3) := by decide +kernel
theorem dX12_digest_130 : decode cX12_digest 130 = .ok (.i2l, 1) := by decide +kernel
theorem dX12_digest_131 : decode cX12_digest 131 = .ok (.invokevirtual 412, 3) := by decide +kernel
theorem dX12_digest_134 : decode cX12_digest 134 = .ok (.iinc 2 1, 3) := by decide +kernel
theorem dX12_digest_137 : decode cX12_digest 137 = .ok (.goto (-24), 3) := by decide +kernel
theorem dX12_digest_140 : decode cX12_digest 140 = .ok (.iinc 1 1, 3) := by decide +kernel
theorem dX12_digest_143 : decode cX12_digest 143 = .ok (.goto (-48), 3) := by decide +kernel
theorem dX12_digest_146 : decode cX12_digest 146 = .ok (.aload_n 0, 1) := by decide +kernel
theorem dX12_digest_147 : decode cX12_digest 147 = .ok (.getfield 409, 3) := by decide +kernel
theorem dX12_digest_150 : decode cX12_digest 150 = .ok (.lreturn, 1) := by decide +kernel
theorem dJ6_bitCount_0f7a4_0 : decode cJ6_bitCount_0f7a4 0 = .ok (.iload_n 0, 1) := by decide +kernel
theorem dJ6_bitCount_0f7a4_1 : decode cJ6_bitCount_0f7a4 1 = .ok (.iload_n 0, 1) := by decide +kernel
theorem dJ6_bitCount_0f7a4_2 : decode cJ6_bitCount_0f7a4 2 = .ok (.iconst 1, 1) := by decide +kernel
theorem dJ6_bitCount_0f7a4_3 : decode cJ6_bitCount_0f7a4 3 = .ok (.iushr, 1) := by decide +kernel
theorem dJ6_bitCount_0f7a4_4 : decode cJ6_bitCount_0f7a4 4 = .ok (.ldc_w 265, 3) := by decide +kernel
theorem dJ6_bitCount_0f7a4_7 : decode cJ6_bitCount_0f7a4 7 = .ok (.iand, 1) := by decide +kernel
theorem dJ6_bitCount_0f7a4_8 : decode cJ6_bitCount_0f7a4 8 = .ok (.isub, 1) := by decide +kernel
theorem dJ6_bitCount_0f7a4_9 : decode cJ6_bitCount_0f7a4 9 = .ok (.istore_n 0, 1) := by decide +kernel
theorem dJ6_bitCount_0f7a4_10 : decode cJ6_bitCount_0f7a4 10 = .ok (.iload_n 0, 1) := by decide +kernel
theorem dJ6_bitCount_0f7a4_11 : decode cJ6_bitCount_0f7a4 11 = .ok (.ldc_w 266, 3) := by decide +kernel
theorem dJ6_bitCount_0f7a4_14 : decode cJ6_bitCount_0f7a4 14 = .ok (.iand, 1) := by decide +kernel
theorem dJ6_bitCount_0f7a4_15 : decode cJ6_bitCount_0f7a4 15 = .ok (.iload_n 0, 1) := by decide +kernel
theorem dJ6_bitCount_0f7a4_16 : decode cJ6_bitCount_0f7a4 16 = .ok (.iconst 2, 1) := by decide +kernel
theorem dJ6_bitCount_0f7a4_17 : decode cJ6_bitCount_0f7a4 17 = .ok (.iushr, 1) := by decide +kernel
theorem dJ6_bitCount_0f7a4_18 : decode cJ6_bitCount_0f7a4 18 = .ok (.ldc_w 266, 3) := by decide +kernel
theorem dJ6_bitCount_0f7a4_21 : decode cJ6_bitCount_0f7a4 21 = .ok (.iand, 1) := by decide +kernel
theorem dJ6_bitCount_0f7a4_22 : decode cJ6_bitCount_0f7a4 22 = .ok (.iadd, 1) := by decide +kernel
theorem dJ6_bitCount_0f7a4_23 : decode cJ6_bitCount_0f7a4 23 = .ok (.istore_n 0, 1) := by decide +kernel
theorem dJ6_bitCount_0f7a4_24 : decode cJ6_bitCount_0f7a4 24 = .ok (.iload_n 0, 1) := by decide +kernel
theorem dJ6_bitCount_0f7a4_25 : decode cJ6_bitCount_0f7a4 25 = .ok (.iload_n 0, 1) := by decide +kernel
theorem dJ6_bitCount_0f7a4_26 : decode cJ6_bitCount_0f7a4 26 = .ok (.iconst 4, 1) := by decide +kernel
theorem dJ6_bitCount_0f7a4_27 : decode cJ6_bitCount_0f7a4 27 = .ok (.iushr, 1) := by decide +kernel
theorem dJ6_bitCount_0f7a4_28 : decode cJ6_bitCount_0f7a4 28 = .ok (.iadd, 1) := by decide +kernel
theorem dJ6_bitCount_0f7a4_29 : decode cJ6_bitCount_0f7a4 29 = .ok (.ldc_w 267, 3) := by decide +kernel
theorem dJ6_bitCount_0f7a4_32 : decode cJ6_bitCount_0f7a4 32 = .ok (.iand, 1) := by decide +kernel
theorem dJ6_bitCount_0f7a4_33 : decode cJ6_bitCount_0f7a4 33 = .ok (.istore_n 0, 1) := by decide +kernel
theorem dJ6_bitCount_0f7a4_34 : decode cJ6_bitCount_0f7a4 34 = .ok (.iload_n 0, 1) := by decide +kernel
theorem dJ6_bitCount_0f7a4_35 : decode cJ6_bitCount_0f7a4 35 = .ok (.iload_n 0, 1) := by decide +kernel
theorem dJ6_bitCount_0f7a4_36 : decode cJ6_bitCount_0f7a4 36 = .ok (.bipush 8, 2) := by decide +kernel
theorem dJ6_bitCount_0f7a4_38 : decode cJ6_bitCount_0f7a4 38 = .ok (.iushr, 1) := by decide +kernel
theorem dJ6_bitCount_0f7a4_39 : decode cJ6_bitCount_0f7a4 39 = .ok (.iadd, 1) := by decide +kernel
theorem dJ6_bitCount_0f7a4_40 : decode cJ6_bitCount_0f7a4 40 = .ok (.istore_n 0, 1) := by decide +kernel
theorem dJ6_bitCount_0f7a4_41 : decode cJ6_bitCount_0f7a4 41 = .ok (.iload_n 0, 1) := by decide +kernel
theorem dJ6_bitCount_0f7a4_42 : decode cJ6_bitCount_0f7a4 42 = .ok (.iload_n 0, 1) := by decide +kernel
theorem dJ6_bitCount_0f7a4_43 : decode cJ6_bitCount_0f7a4 43 = .ok (.bipush 16, 2) := by decide +kernel
theorem dJ6_bitCount_0f7a4_45 : decode cJ6_bitCount_0f7a4 45 = .ok (.iushr, 1) := by decide +kernel
theorem dJ6_bitCount_0f7a4_46 : decode cJ6_bitCount_0f7a4 46 = .ok (.iadd, 1) := by decide +kernel
theorem dJ6_bitCount_0f7a4_47 : decode cJ6_bitCount_0f7a4 47 = .ok (.istore_n 0, 1) := by decide +kernel
theorem dJ6_bitCount_0f7a4_48 : decode cJ6_bitCount_0f7a4 48 = .ok (.iload_n 0, 1) := by decide +kernel
theorem dJ6_bitCount_0f7a4_49 : decode cJ6_bitCount_0f7a4 49 = .ok (.bipush 63, 2) := by decide +kernel
theorem dJ6_bitCount_0f7a4_51 : decode cJ6_bitCount_0f7a4 51 = .ok (.iand, 1) := by decide +kernel
theorem dJ6_bitCount_0f7a4_52 : decode cJ6_bitCount_0f7a4 52 = .ok (.ireturn, 1) := by decide +kernel
theorem dJ9_max_7cf53_0 : decode cJ9_max_7cf53 0 = .ok (.iload_n 0, 1) := by decide +kernel
theorem dJ9_max_7cf53_1 : decode cJ9_max_7cf53 1 = .ok (.iload_n 1, 1) := by decide +kernel
theorem dJ9_max_7cf53_2 : decode cJ9_max_7cf53 2 = .ok (.if_icmp .lt 7, 3) := by decide +kernel
theorem dJ9_max_7cf53_5 : decode cJ9_max_7cf53 5 = .ok (.iload_n 0, 1) := by decide +kernel
theorem dJ9_max_7cf53_6 : decode cJ9_max_7cf53 6 = .ok (.goto 4, 3) := by decide +kernel
theorem dJ9_max_7cf53_9 : decode cJ9_max_7cf53 9 = .ok (.iload_n 1, 1) := by decide +kernel
theorem dJ9_max_7cf53_10 : decode cJ9_max_7cf53 10 = .ok (.ireturn, 1) := by decide +kernel
theorem dJ9_min_7cf53_0 : decode cJ9_min_7cf53 0 = .ok (.iload_n 0, 1) := by decide +kernel
theorem dJ9_min_7cf53_1 : decode cJ9_min_7cf53 1 = .ok (.iload_n 1, 1) := by decide +kernel
theorem dJ9_min_7cf53_2 : decode cJ9_min_7cf53 2 = .ok (.if_icmp .gt 7, 3) := by decide +kernel
theorem dJ9_min_7cf53_5 : decode cJ9_min_7cf53 5 = .ok (.iload_n 0, 1) := by decide +kernel
theorem dJ9_min_7cf53_6 : decode cJ9_min_7cf53 6 = .ok (.goto 4, 3) := by decide +kernel
theorem dJ9_min_7cf53_9 : decode cJ9_min_7cf53 9 = .ok (.iload_n 1, 1) := by decide +kernel
theorem dJ9_min_7cf53_10 : decode cJ9_min_7cf53 10 = .ok (.ireturn, 1) := by decide +kernel
theorem dJxa1e45_init_da8c8_0 : decode cJxa1e45_init_da8c8 0 = .ok (.aload_n 0, 1) := by decide +kernel
theorem dJxa1e45_init_da8c8_1 : decode cJxa1e45_init_da8c8 1 = .ok (.invokespecial 1, 3) := by decide +kernel
theorem dJxa1e45_init_da8c8_4 : decode cJxa1e45_init_da8c8 4 = .ok (.return_, 1) := by decide +kernel
theorem dJxc12de_init_da8c8_0 : decode cJxc12de_init_da8c8 0 = .ok (.aload_n 0, 1) := by decide +kernel
theorem dJxc12de_init_da8c8_1 : decode cJxc12de_init_da8c8 1 = .ok (.invokespecial 1, 3) := by decide +kernel
theorem dJxc12de_init_da8c8_4 : decode cJxc12de_init_da8c8 4 = .ok (.aload_n 0, 1) := by decide +kernel
theorem dJxc12de_init_da8c8_5 : decode cJxc12de_init_da8c8 5 = .ok (.iconst 0, 1) := by decide +kernel
theorem dJxc12de_init_da8c8_6 : decode cJxc12de_init_da8c8 6 = .ok (.putfield 7, 3) := by decide +kernel
theorem dJxc12de_init_da8c8_9 : decode cJxc12de_init_da8c8 9 = .ok (.return_, 1) := by decide +kernel
theorem dJx4a65c_init_da8c8_0 : decode cJx4a65c_init_da8c8 0 = .ok (.aload_n 0, 1) := by decide +kernel
theorem dJx4a65c_init_da8c8_1 : decode cJx4a65c_init_da8c8 1 = .ok (.invokespecial 1, 3) := by decide +kernel
theorem dJx4a65c_init_da8c8_4 : decode cJx4a65c_init_da8c8 4 = .ok (.aload_n 0, 1) := by decide +kernel
theorem dJx4a65c_init_da8c8_5 : decode cJx4a65c_init_da8c8 5 = .ok (.getstatic 39, 3) := by decide +kernel
theorem dJx4a65c_init_da8c8_8 : decode cJx4a65c_init_da8c8 8 = .ok (.putfield 9, 3) := by decide +kernel
theorem dJx4a65c_init_da8c8_11 : decode cJx4a65c_init_da8c8 11 = .ok (.return_, 1) := by decide +kernel
theorem dJx4a65c_grow_92f84_0 : decode cJx4a65c_grow_92f84 0 = .ok (.aload_n 0, 1) := by decide +kernel
theorem dJx4a65c_grow_92f84_1 : decode cJx4a65c_grow_92f84 1 = .ok (.getfield 9, 3) := by decide +kernel
theorem dJx4a65c_grow_92f84_4 : decode cJx4a65c_grow_92f84 4 = .ok (.arraylength, 1) := by decide +kernel
theorem dJx4a65c_grow_92f84_5 : decode cJx4a65c_grow_92f84 5 = .ok (.istore_n 2, 1) := by decide +kernel
theorem dJx4a65c_grow_92f84_6 : decode cJx4a65c_grow_92f84 6 = .ok (.iload_n 2, 1) := by decide +kernel
theorem dJx4a65c_grow_92f84_7 : decode cJx4a65c_grow_92f84 7 = .ok (.ifCond .gt 13, 3) := by decide +kernel
theorem dJx4a65c_grow_92f84_10 : decode cJx4a65c_grow_92f84 10 = .ok (.aload_n 0, 1) := by decide +kernel
theorem dJx4a65c_grow_92f84_11 : decode cJx4a65c_grow_92f84 11 = .ok (.getfield 9, 3) := by decide +kernel
theorem dJx4a65c_grow_92f84_14 : decode cJx4a65c_grow_92f84 14 = .ok (.getstatic 39, 3) := by decide +kernel
theorem dJx4a65c_grow_92f84_17 : decode cJx4a65c_grow_92f84 17 = .ok (.if_acmp .eq 28, 3) := by decide +kernel
theorem dJx4a65c_grow_92f84_20 : decode cJx4a65c_grow_92f84 20 = .ok (.iload_n 2, 1) := by decide +kernel
theorem dJx4a65c_grow_92f84_21 : decode cJx4a65c_grow_92f84 21 = .ok (.iload_n 1, 1) := by decide +kernel
theorem dJx4a65c_grow_92f84_22 : decode cJx4a65c_grow_92f84 22 = .ok (.iload_n 2, 1) := by decide +kernel
theorem dJx4a65c_grow_92f84_23 : decode cJx4a65c_grow_92f84 23 = .ok (.isub, 1) := by decide +kernel
theorem dJx4a65c_grow_92f84_24 : decode cJx4a65c_grow_92f84 24 = .ok (.iload_n 2, 1) := by decide +kernel
theorem dJx4a65c_grow_92f84_25 : decode cJx4a65c_grow_92f84 25 = .ok (.iconst 1, 1) := by decide +kernel
theorem dJx4a65c_grow_92f84_26 : decode cJx4a65c_grow_92f84 26 = .ok (.ishr, 1) := by decide +kernel
theorem dJx4a65c_grow_92f84_27 : decode cJx4a65c_grow_92f84 27 = .ok (.invokestatic 73, 3) := by decide +kernel
theorem dJx4a65c_grow_92f84_30 : decode cJx4a65c_grow_92f84 30 = .ok (.istore_n 3, 1) := by decide +kernel
theorem dJx4a65c_grow_92f84_31 : decode cJx4a65c_grow_92f84 31 = .ok (.aload_n 0, 1) := by decide +kernel
theorem dJx4a65c_grow_92f84_32 : decode cJx4a65c_grow_92f84 32 = .ok (.aload_n 0, 1) := by decide +kernel
theorem dJx4a65c_grow_92f84_33 : decode cJx4a65c_grow_92f84 33 = .ok (.getfield 9, 3) := by decide +kernel
theorem dJx4a65c_grow_92f84_36 : decode cJx4a65c_grow_92f84 36 = .ok (.iload_n 3, 1) := by decide +kernel
theorem dJx4a65c_grow_92f84_37 : decode cJx4a65c_grow_92f84 37 = .ok (.invokestatic 66, 3) := by decide +kernel
theorem dJx4a65c_grow_92f84_40 : decode cJx4a65c_grow_92f84 40 = .ok (.dup_x1, 1) := by decide +kernel
theorem dJx4a65c_grow_92f84_41 : decode cJx4a65c_grow_92f84 41 = .ok (.putfield 9, 3) := by decide +kernel
theorem dJx4a65c_grow_92f84_44 : decode cJx4a65c_grow_92f84 44 = .ok (.areturn, 1) := by decide +kernel
theorem dJx4a65c_grow_92f84_45 : decode cJx4a65c_grow_92f84 45 = .ok (.aload_n 0, 1) := by decide +kernel
theorem dJx4a65c_grow_92f84_46 : decode cJx4a65c_grow_92f84 46 = .ok (.bipush 10, 2) := by decide +kernel
theorem dJx4a65c_grow_92f84_48 : decode cJx4a65c_grow_92f84 48 = .ok (.iload_n 1, 1) := by decide +kernel
theorem dJx4a65c_grow_92f84_49 : decode cJx4a65c_grow_92f84 49 = .ok (.invokestatic 79, 3) := by decide +kernel
theorem dJx4a65c_grow_92f84_52 : decode cJx4a65c_grow_92f84 52 = .ok (.anewarray 7, 3) := by decide +kernel
theorem dJx4a65c_grow_92f84_55 : decode cJx4a65c_grow_92f84 55 = .ok (.dup_x1, 1) := by decide +kernel
theorem dJx4a65c_grow_92f84_56 : decode cJx4a65c_grow_92f84 56 = .ok (.putfield 9, 3) := by decide +kernel
theorem dJx4a65c_grow_92f84_59 : decode cJx4a65c_grow_92f84 59 = .ok (.areturn, 1) := by decide +kernel
theorem dJx4a65c_grow_d5877_0 : decode cJx4a65c_grow_d5877 0 = .ok (.aload_n 0, 1) := by decide +kernel
theorem dJx4a65c_grow_d5877_1 : decode cJx4a65c_grow_d5877 1 = .ok (.aload_n 0, 1) := by decide +kernel
theorem dJx4a65c_grow_d5877_2 : decode cJx4a65c_grow_d5877 2 = .ok (.getfield 48, 3) := by decide +kernel
theorem dJx4a65c_grow_d5877_5 : decode cJx4a65c_grow_d5877 5 = .ok (.iconst 1, 1) := by decide +kernel
theorem dJx4a65c_grow_d5877_6 : decode cJx4a65c_grow_d5877 6 = .ok (.iadd, 1) := by decide +kernel
theorem dJx4a65c_grow_d5877_7 : decode cJx4a65c_grow_d5877 7 = .ok (.invokevirtual 69, 3) := by decide +kernel
theorem dJx4a65c_grow_d5877_10 : decode cJx4a65c_grow_d5877 10 = .ok (.areturn, 1) := by decide +kernel
theorem dJx4a65c_size_8abf5_0 : decode cJx4a65c_size_8abf5 0 = .ok (.aload_n 0, 1) := by decide +kernel
theorem dJx4a65c_size_8abf5_1 : decode cJx4a65c_size_8abf5 1 = .ok (.getfield 48, 3) := by decide +kernel
theorem dJx4a65c_size_8abf5_4 : decode cJx4a65c_size_8abf5 4 = .ok (.ireturn, 1) := by decide +kernel
theorem dJx4a65c_elementData_915e3_0 : decode cJx4a65c_elementData_915e3 0 = .ok (.aload_n 0, 1) := by decide +kernel
theorem dJx4a65c_elementData_915e3_1 : decode cJx4a65c_elementData_915e3 1 = .ok (.getfield 9, 3) := by decide +kernel
theorem dJx4a65c_elementData_915e3_4 : decode cJx4a65c_elementData_915e3 4 = .ok (.iload_n 1, 1) := by decide +kernel
theorem dJx4a65c_elementData_915e3_5 : decode cJx4a65c_elementData_915e3 5 = .ok (.aaload, 1) := by decide +kernel
theorem dJx4a65c_elementData_915e3_6 : decode cJx4a65c_elementData_915e3 6 = .ok (.areturn, 1) := by decide +kernel
theorem dJx4a65c_get_915e3_0 : decode cJx4a65c_get_915e3 0 = .ok (.iload_n 1, 1) := by decide +kernel
theorem dJx4a65c_get_915e3_1 : decode cJx4a65c_get_915e3 1 = .ok (.aload_n 0, 1) := by decide +kernel
theorem dJx4a65c_get_915e3_2 : decode cJx4a65c_get_915e3 2 = .ok (.getfield 48, 3) := by decide +kernel
theorem dJx4a65c_get_915e3_5 : decode cJx4a65c_get_915e3 5 = .ok (.invokestatic 118, 3) := by decide +kernel
theorem dJx4a65c_get_915e3_8 : decode cJx4a65c_get_915e3 8 = .ok (.pop, 1) := by decide +kernel
theorem dJx4a65c_get_915e3_9 : decode cJx4a65c_get_915e3 9 = .ok (.aload_n 0, 1) := by decide +kernel
theorem dJx4a65c_get_915e3_10 : decode cJx4a65c_get_915e3 10 = .ok (.iload_n 1, 1) := by decide +kernel
theorem dJx4a65c_get_915e3_11 : decode cJx4a65c_get_915e3 11 = .ok (.invokevirtual 123, 3) := by decide +kernel
theorem dJx4a65c_get_915e3_14 : decode cJx4a65c_get_915e3 14 = .ok (.areturn, 1) := by decide +kernel
theorem dJx4a65c_add_72be8_0 : decode cJx4a65c_add_72be8 0 = .ok (.iload_n 3, 1) := by decide +kernel
theorem dJx4a65c_add_72be8_1 : decode cJx4a65c_add_72be8 1 = .ok (.aload_n 2, 1) := by decide +kernel
theorem dJx4a65c_add_72be8_2 : decode cJx4a65c_add_72be8 2 = .ok (.arraylength, 1) := by decide +kernel
theorem dJx4a65c_add_72be8_3 : decode cJx4a65c_add_72be8 3 = .ok (.if_icmp .ne 8, 3) := by decide +kernel
theorem dJx4a65c_add_72be8_6 : decode cJx4a65c_add_72be8 6 = .ok (.aload_n 0, 1) := by decide +kernel
theorem dJx4a65c_add_72be8_7 : decode cJx4a65c_add_72be8 7 = .ok (.invokevirtual 129, 3) := by decide +kernel
theorem dJx4a65c_add_72be8_10 : decode cJx4a65c_add_72be8 10 = .ok (.astore_n 2, 1) := by decide +kernel
theorem dJx4a65c_add_72be8_11 : decode cJx4a65c_add_72be8 11 = .ok (.aload_n 2, 1) := by decide +kernel
theorem dJx4a65c_add_72be8_12 : decode cJx4a65c_add_72be8 12 = .ok (.iload_n 3, 1) := by decide +kernel
theorem dJx4a65c_add_72be8_13 : decode cJx4a65c_add_72be8 13 = .ok (.aload_n 1, 1) := by decide +kernel
theorem dJx4a65c_add_72be8_14 : decode cJx4a65c_add_72be8 14 = .ok (.aastore, 1) := by decide +kernel
theorem dJx4a65c_add_72be8_15 : decode cJx4a65c_add_72be8 15 = .ok (.aload_n 0, 1) := by decide +kernel
theorem dJx4a65c_add_72be8_16 : decode cJx4a65c_add_72be8 16 = .ok (.iload_n 3, 1) := by decide +kernel
theorem dJx4a65c_add_72be8_17 : decode cJx4a65c_add_72be8 17 = .ok (.iconst 1, 1) := by decide +kernel
theorem dJx4a65c_add_72be8_18 : decode cJx4a65c_add_72be8 18 = .ok (.iadd, 1) := by decide +kernel
theorem dJx4a65c_add_72be8_19 : decode cJx4a65c_add_72be8 19 = .ok (.putfield 48, 3) := by decide +kernel
theorem dJx4a65c_add_72be8_22 : decode cJx4a65c_add_72be8 22 = .ok (.return_, 1) := by decide +kernel
theorem dJx4a65c_add_9ea2d_0 : decode cJx4a65c_add_9ea2d 0 = .ok (.aload_n 0, 1) := by decide +kernel
theorem dJx4a65c_add_9ea2d_1 : decode cJx4a65c_add_9ea2d 1 = .ok (.dup, 1) := by decide +kernel
theorem dJx4a65c_add_9ea2d_2 : decode cJx4a65c_add_9ea2d 2 = .ok (.getfield 63, 3) := by decide +kernel
theorem dJx4a65c_add_9ea2d_5 : decode cJx4a65c_add_9ea2d 5 = .ok (.iconst 1, 1) := by decide +kernel
theorem dJx4a65c_add_9ea2d_6 : decode cJx4a65c_add_9ea2d 6 = .ok (.iadd, 1) := by decide +kernel
theorem dJx4a65c_add_9ea2d_7 : decode cJx4a65c_add_9ea2d 7 = .ok (.putfield 63, 3) := by decide +kernel
theorem dJx4a65c_add_9ea2d_10 : decode cJx4a65c_add_9ea2d 10 = .ok (.aload_n 0, 1) := by decide +kernel
theorem dJx4a65c_add_9ea2d_11 : decode cJx4a65c_add_9ea2d 11 = .ok (.aload_n 1, 1) := by decide +kernel
theorem dJx4a65c_add_9ea2d_12 : decode cJx4a65c_add_9ea2d 12 = .ok (.aload_n 0, 1) := by decide +kernel
theorem dJx4a65c_add_9ea2d_13 : decode cJx4a65c_add_9ea2d 13 = .ok (.getfield 9, 3) := by decide +kernel
theorem dJx4a65c_add_9ea2d_16 : decode cJx4a65c_add_9ea2d 16 = .ok (.aload_n 0, 1) := by decide +kernel
theorem dJx4a65c_add_9ea2d_17 : decode cJx4a65c_add_9ea2d 17 = .ok (.getfield 48, 3) := by decide +kernel
theorem dJx4a65c_add_9ea2d_20 : decode cJx4a65c_add_9ea2d 20 = .ok (.invokevirtual 131, 3) := by decide +kernel
theorem dJx4a65c_add_9ea2d_23 : decode cJx4a65c_add_9ea2d 23 = .ok (.iconst 1, 1) := by decide +kernel
theorem dJx4a65c_add_9ea2d_24 : decode cJx4a65c_add_9ea2d 24 = .ok (.ireturn, 1) := by decide +kernel
theorem dJ7_copyOf_1904c_0 : decode cJ7_copyOf_1904c 0 = .ok (.aload_n 0, 1) := by decide +kernel
theorem dJ7_copyOf_1904c_1 : decode cJ7_copyOf_1904c 1 = .ok (.iload_n 1, 1) := by decide +kernel
theorem dJ7_copyOf_1904c_2 : decode cJ7_copyOf_1904c 2 = .ok (.aload_n 0, 1) := by decide +kernel
theorem dJ7_copyOf_1904c_3 : decode cJ7_copyOf_1904c 3 = .ok (.invokevirtual 86, 3) := by decide +kernel
theorem dJ7_copyOf_1904c_6 : decode cJ7_copyOf_1904c 6 = .ok (.invokestatic 300, 3) := by decide +kernel
theorem dJ7_copyOf_1904c_9 : decode cJ7_copyOf_1904c 9 = .ok (.areturn, 1) := by decide +kernel
theorem dJ7_copyOf_6403c_0 : decode cJ7_copyOf_6403c 0 = .ok (.aload_n 2, 1) := by decide +kernel
theorem dJ7_copyOf_6403c_1 : decode cJ7_copyOf_6403c 1 = .ok (.ldc 110, 2) := by decide +kernel
theorem dJ7_copyOf_6403c_3 : decode cJ7_copyOf_6403c 3 = .ok (.if_acmp .ne 10, 3) := by decide +kernel
theorem dJ7_copyOf_6403c_6 : decode cJ7_copyOf_6403c 6 = .ok (.iload_n 1, 1) := by decide +kernel
theorem dJ7_copyOf_6403c_7 : decode cJ7_copyOf_6403c 7 = .ok (.anewarray 2, 3) := by decide +kernel
theorem dJ7_copyOf_6403c_10 : decode cJ7_copyOf_6403c 10 = .ok (.goto 14, 3) := by decide +kernel
theorem dJ7_copyOf_6403c_13 : decode cJ7_copyOf_6403c 13 = .ok (.aload_n 2, 1) := by decide +kernel
theorem dJ7_copyOf_6403c_14 : decode cJ7_copyOf_6403c 14 = .ok (.invokevirtual 90, 3) := by decide +kernel
theorem dJ7_copyOf_6403c_17 : decode cJ7_copyOf_6403c 17 = .ok (.iload_n 1, 1) := by decide +kernel
theorem dJ7_copyOf_6403c_18 : decode cJ7_copyOf_6403c 18 = .ok (.invokestatic 95, 3) := by decide +kernel
theorem dJ7_copyOf_6403c_21 : decode cJ7_copyOf_6403c 21 = .ok (.checkcast 110, 3) := by decide +kernel
theorem dJ7_copyOf_6403c_24 : decode cJ7_copyOf_6403c 24 = .ok (.astore_n 3, 1) := by decide +kernel
theorem dJ7_copyOf_6403c_25 : decode cJ7_copyOf_6403c 25 = .ok (.aload_n 0, 1) := by decide +kernel
theorem dJ7_copyOf_6403c_26 : decode cJ7_copyOf_6403c 26 = .ok (.iconst 0, 1) := by decide +kernel
theorem dJ7_copyOf_6403c_27 : decode cJ7_copyOf_6403c 27 = .ok (.aload_n 3, 1) := by decide +kernel
theorem dJ7_copyOf_6403c_28 : decode cJ7_copyOf_6403c 28 = .ok (.iconst 0, 1) := by decide +kernel
theorem dJ7_copyOf_6403c_29 : decode cJ7_copyOf_6403c 29 = .ok (.aload_n 0, 1) := by decide +kernel
theorem dJ7_copyOf_6403c_30 : decode cJ7_copyOf_6403c 30 = .ok (.arraylength, 1) := by decide +kernel
theorem dJ7_copyOf_6403c_31 : decode cJ7_copyOf_6403c 31 = .ok (.iload_n 1, 1) := by decide +kernel
theorem dJ7_copyOf_6403c_32 : decode cJ7_copyOf_6403c 32 = .ok (.invokestatic 304, 3) := by decide +kernel
theorem dJ7_copyOf_6403c_35 : decode cJ7_copyOf_6403c 35 = .ok (.invokestatic 150, 3) := by decide +kernel
theorem dJ7_copyOf_6403c_38 : decode cJ7_copyOf_6403c 38 = .ok (.aload_n 3, 1) := by decide +kernel
theorem dJ7_copyOf_6403c_39 : decode cJ7_copyOf_6403c 39 = .ok (.areturn, 1) := by decide +kernel
theorem dJ15_checkIndex_7cf53_0 : decode cJ15_checkIndex_7cf53 0 = .ok (.iload_n 0, 1) := by decide +kernel
theorem dJ15_checkIndex_7cf53_1 : decode cJ15_checkIndex_7cf53 1 = .ok (.iload_n 1, 1) := by decide +kernel
theorem dJ15_checkIndex_7cf53_2 : decode cJ15_checkIndex_7cf53 2 = .ok (.aconst_null, 1) := by decide +kernel
theorem dJ15_checkIndex_7cf53_3 : decode cJ15_checkIndex_7cf53 3 = .ok (.invokestatic 105, 3) := by decide +kernel
theorem dJ15_checkIndex_7cf53_6 : decode cJ15_checkIndex_7cf53 6 = .ok (.ireturn, 1) := by decide +kernel
theorem dJ8_newLength_cabcc_0 : decode cJ8_newLength_cabcc 0 = .ok (.iload_n 0, 1) := by decide +kernel
theorem dJ8_newLength_cabcc_1 : decode cJ8_newLength_cabcc 1 = .ok (.iload_n 1, 1) := by decide +kernel
theorem dJ8_newLength_cabcc_2 : decode cJ8_newLength_cabcc 2 = .ok (.iload_n 2, 1) := by decide +kernel
theorem dJ8_newLength_cabcc_3 : decode cJ8_newLength_cabcc 3 = .ok (.invokestatic 194, 3) := by decide +kernel
theorem dJ8_newLength_cabcc_6 : decode cJ8_newLength_cabcc 6 = .ok (.iadd, 1) := by decide +kernel
theorem dJ8_newLength_cabcc_7 : decode cJ8_newLength_cabcc 7 = .ok (.istore_n 3, 1) := by decide +kernel
theorem dJ8_newLength_cabcc_8 : decode cJ8_newLength_cabcc 8 = .ok (.iconst 0, 1) := by decide +kernel
theorem dJ8_newLength_cabcc_9 : decode cJ8_newLength_cabcc 9 = .ok (.iload_n 3, 1) := by decide +kernel
theorem dJ8_newLength_cabcc_10 : decode cJ8_newLength_cabcc 10 = .ok (.if_icmp .ge 11, 3) := by decide +kernel
theorem dJ8_newLength_cabcc_13 : decode cJ8_newLength_cabcc 13 = .ok (.iload_n 3, 1) := by decide +kernel
theorem dJ8_newLength_cabcc_14 : decode cJ8_newLength_cabcc 14 = .ok (.ldc 200, 2) := by decide +kernel
theorem dJ8_newLength_cabcc_16 : decode cJ8_newLength_cabcc 16 = .ok (.if_icmp .gt 5, 3) := by decide +kernel
theorem dJ8_newLength_cabcc_19 : decode cJ8_newLength_cabcc 19 = .ok (.iload_n 3, 1) := by decide +kernel
theorem dJ8_newLength_cabcc_20 : decode cJ8_newLength_cabcc 20 = .ok (.ireturn, 1) := by decide +kernel
theorem dJ8_newLength_cabcc_21 : decode cJ8_newLength_cabcc 21 = .ok (.iload_n 0, 1) := by decide +kernel
theorem dJ8_newLength_cabcc_22 : decode cJ8_newLength_cabcc 22 = .ok (.iload_n 1, 1) := by decide +kernel
theorem dJ8_newLength_cabcc_23 : decode cJ8_newLength_cabcc 23 = .ok (.invokestatic 201, 3) := by decide +kernel
theorem dJ8_newLength_cabcc_26 : decode cJ8_newLength_cabcc 26 = .ok (.ireturn, 1) := by decide +kernel
theorem dJ8_hugeLength_7cf53_0 : decode cJ8_hugeLength_7cf53 0 = .ok (.iload_n 0, 1) := by decide +kernel
theorem dJ8_hugeLength_7cf53_1 : decode cJ8_hugeLength_7cf53 1 = .ok (.iload_n 1, 1) := by decide +kernel
theorem dJ8_hugeLength_7cf53_2 : decode cJ8_hugeLength_7cf53 2 = .ok (.iadd, 1) := by decide +kernel
theorem dJ8_hugeLength_7cf53_3 : decode cJ8_hugeLength_7cf53 3 = .ok (.istore_n 2, 1) := by decide +kernel
theorem dJ8_hugeLength_7cf53_4 : decode cJ8_hugeLength_7cf53 4 = .ok (.iload_n 2, 1) := by decide +kernel
theorem dJ8_hugeLength_7cf53_5 : decode cJ8_hugeLength_7cf53 5 = .ok (.ifCond .ge 44, 3) := by decide +kernel
theorem dJ8_hugeLength_7cf53_8 : decode cJ8_hugeLength_7cf53 8 = .ok (.new 204, 3) := by decide +kernel
theorem dJ8_hugeLength_7cf53_11 : decode cJ8_hugeLength_7cf53 11 = .ok (.dup, 1) := by decide +kernel
theorem dJ8_hugeLength_7cf53_12 : decode cJ8_hugeLength_7cf53 12 = .ok (.new 89, 3) := by decide +kernel
theorem dJ8_hugeLength_7cf53_15 : decode cJ8_hugeLength_7cf53 15 = .ok (.dup, 1) := by decide +kernel
theorem dJ8_hugeLength_7cf53_16 : decode cJ8_hugeLength_7cf53 16 = .ok (.invokespecial 91, 3) := by decide +kernel
theorem dJ8_hugeLength_7cf53_19 : decode cJ8_hugeLength_7cf53 19 = .ok (.ldc 206, 2) := by decide +kernel
theorem dJ8_hugeLength_7cf53_21 : decode cJ8_hugeLength_7cf53 21 = .ok (.invokevirtual 94, 3) := by decide +kernel
theorem dJ8_hugeLength_7cf53_24 : decode cJ8_hugeLength_7cf53 24 = .ok (.iload_n 0, 1) := by decide +kernel
theorem dJ8_hugeLength_7cf53_25 : decode cJ8_hugeLength_7cf53 25 = .ok (.invokevirtual 98, 3) := by decide +kernel
theorem dJ8_hugeLength_7cf53_28 : decode cJ8_hugeLength_7cf53 28 = .ok (.ldc 208, 2) := by decide +kernel
theorem dJ8_hugeLength_7cf53_30 : decode cJ8_hugeLength_7cf53 30 = .ok (.invokevirtual 94, 3) := by decide +kernel
theorem dJ8_hugeLength_7cf53_33 : decode cJ8_hugeLength_7cf53 33 = .ok (.iload_n 1, 1) := by decide +kernel
theorem dJ8_hugeLength_7cf53_34 : decode cJ8_hugeLength_7cf53 34 = .ok (.invokevirtual 98, 3) := by decide +kernel
theorem dJ8_hugeLength_7cf53_37 : decode cJ8_hugeLength_7cf53 37 = .ok (.ldc 210, 2) := by decide +kernel
theorem dJ8_hugeLength_7cf53_39 : decode cJ8_hugeLength_7cf53 39 = .ok (.invokevirtual 94, 3) := by decide +kernel
theorem dJ8_hugeLength_7cf53_42 : decode cJ8_hugeLength_7cf53 42 = .ok (.invokevirtual 101, 3) := by decide +kernel
theorem dJ8_hugeLength_7cf53_45 : decode cJ8_hugeLength_7cf53 45 = .ok (.invokespecial 212, 3) := by decide +kernel
theorem dJ8_hugeLength_7cf53_48 : decode cJ8_hugeLength_7cf53 48 = .ok (.athrow, 1) := by decide +kernel
theorem dJ8_hugeLength_7cf53_49 : decode cJ8_hugeLength_7cf53 49 = .ok (.iload_n 2, 1) := by decide +kernel
theorem dJ8_hugeLength_7cf53_50 : decode cJ8_hugeLength_7cf53 50 = .ok (.ldc 200, 2) := by decide +kernel
theorem dJ8_hugeLength_7cf53_52 : decode cJ8_hugeLength_7cf53 52 = .ok (.if_icmp .gt 6, 3) := by decide +kernel
theorem dJ8_hugeLength_7cf53_55 : decode cJ8_hugeLength_7cf53 55 = .ok (.ldc 200, 2) := by decide +kernel
theorem dJ8_hugeLength_7cf53_57 : decode cJ8_hugeLength_7cf53 57 = .ok (.ireturn, 1) := by decide +kernel
theorem dJ8_hugeLength_7cf53_58 : decode cJ8_hugeLength_7cf53 58 = .ok (.iload_n 2, 1) := by decide +kernel
theorem dJ8_hugeLength_7cf53_59 : decode cJ8_hugeLength_7cf53 59 = .ok (.ireturn, 1) := by decide +kernel
theorem dJ3_checkIndex_8e157_0 : decode cJ3_checkIndex_8e157 0 = .ok (.iload_n 0, 1) := by decide +kernel
theorem dJ3_checkIndex_8e157_1 : decode cJ3_checkIndex_8e157 1 = .ok (.ifCond .lt 8, 3) := by decide +kernel
theorem dJ3_checkIndex_8e157_4 : decode cJ3_checkIndex_8e157 4 = .ok (.iload_n 0, 1) := by decide +kernel
theorem dJ3_checkIndex_8e157_5 : decode cJ3_checkIndex_8e157 5 = .ok (.iload_n 1, 1) := by decide +kernel
theorem dJ3_checkIndex_8e157_6 : decode cJ3_checkIndex_8e157 6 = .ok (.if_icmp .lt 10, 3) := by decide +kernel
theorem dJ3_checkIndex_8e157_9 : decode cJ3_checkIndex_8e157 9 = .ok (.aload_n 2, 1) := by decide +kernel
theorem dJ3_checkIndex_8e157_10 : decode cJ3_checkIndex_8e157 10 = .ok (.iload_n 0, 1) := by decide +kernel
theorem dJ3_checkIndex_8e157_11 : decode cJ3_checkIndex_8e157 11 = .ok (.iload_n 1, 1) := by decide +kernel
theorem dJ3_checkIndex_8e157_12 : decode cJ3_checkIndex_8e157 12 = .ok (.invokestatic 95, 3) := by decide +kernel
theorem dJ3_checkIndex_8e157_15 : decode cJ3_checkIndex_8e157 15 = .ok (.athrow, 1) := by decide +kernel
theorem dJ3_checkIndex_8e157_16 : decode cJ3_checkIndex_8e157 16 = .ok (.iload_n 0, 1) := by decide +kernel
theorem dJ3_checkIndex_8e157_17 : decode cJ3_checkIndex_8e157 17 = .ok (.ireturn, 1) := by decide +kernel
