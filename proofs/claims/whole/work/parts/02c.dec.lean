/-! decode rows -/
theorem dX9_init_0 : decode cX9_init 0 = .ok (.aload_n 0, 1) := by decide +kernel
theorem dX9_init_1 : decode cX9_init 1 = .ok (.invokespecial 3, 3) := by decide +kernel
theorem dX9_init_4 : decode cX9_init 4 = .ok (.aload_n 0, 1) := by decide +kernel
theorem dX9_init_5 : decode cX9_init 5 = .ok (.iconst 3, 1) := by decide +kernel
theorem dX9_init_6 : decode cX9_init 6 = .ok (.putfield 9, 3) := by decide +kernel
theorem dX9_init_9 : decode cX9_init 9 = .ok (.aload_n 0, 1) := by decide +kernel
theorem dX9_init_10 : decode cX9_init 10 = .ok (.sipush 256, 3) := by decide +kernel
theorem dX9_init_13 : decode cX9_init 13 = .ok (.newarray .boolean, 2) := by decide +kernel
theorem dX9_init_15 : decode cX9_init 15 = .ok (.putfield 15, 3) := by decide +kernel
theorem dX9_init_18 : decode cX9_init 18 = .ok (.aload_n 0, 1) := by decide +kernel
theorem dX9_init_19 : decode cX9_init 19 = .ok (.sipush 256, 3) := by decide +kernel
theorem dX9_init_22 : decode cX9_init 22 = .ok (.newarray .boolean, 2) := by decide +kernel
theorem dX9_init_24 : decode cX9_init 24 = .ok (.putfield 19, 3) := by decide +kernel
theorem dX9_init_27 : decode cX9_init 27 = .ok (.aload_n 0, 1) := by decide +kernel
theorem dX9_init_28 : decode cX9_init 28 = .ok (.sipush 256, 3) := by decide +kernel
theorem dX9_init_31 : decode cX9_init 31 = .ok (.newarray .int, 2) := by decide +kernel
theorem dX9_init_33 : decode cX9_init 33 = .ok (.putfield 22, 3) := by decide +kernel
theorem dX9_init_36 : decode cX9_init 36 = .ok (.aload_n 0, 1) := by decide +kernel
theorem dX9_init_37 : decode cX9_init 37 = .ok (.bipush 8, 2) := by decide +kernel
theorem dX9_init_39 : decode cX9_init 39 = .ok (.sipush 256, 3) := by decide +kernel
theorem dX9_init_42 : decode cX9_init 42 = .ok (.multianewarray 26 2, 4) := by decide +kernel
theorem dX9_init_46 : decode cX9_init 46 = .ok (.putfield 28, 3) := by decide +kernel
theorem dX9_init_49 : decode cX9_init 49 = .ok (.aload_n 0, 1) := by decide +kernel
theorem dX9_init_50 : decode cX9_init 50 = .ok (.sipush 256, 3) := by decide +kernel
theorem dX9_init_53 : decode cX9_init 53 = .ok (.newarray .int, 2) := by decide +kernel
theorem dX9_init_55 : decode cX9_init 55 = .ok (.putfield 31, 3) := by decide +kernel
theorem dX9_init_58 : decode cX9_init 58 = .ok (.aload_n 0, 1) := by decide +kernel
theorem dX9_init_59 : decode cX9_init 59 = .ok (.sipush 256, 3) := by decide +kernel
theorem dX9_init_62 : decode cX9_init 62 = .ok (.newarray .int, 2) := by decide +kernel
theorem dX9_init_64 : decode cX9_init 64 = .ok (.putfield 34, 3) := by decide +kernel
theorem dX9_init_67 : decode cX9_init 67 = .ok (.aload_n 0, 1) := by decide +kernel
theorem dX9_init_68 : decode cX9_init 68 = .ok (.iconst 4, 1) := by decide +kernel
theorem dX9_init_69 : decode cX9_init 69 = .ok (.sipush 256, 3) := by decide +kernel
theorem dX9_init_72 : decode cX9_init 72 = .ok (.multianewarray 37 2, 4) := by decide +kernel
theorem dX9_init_76 : decode cX9_init 76 = .ok (.putfield 39, 3) := by decide +kernel
theorem dX9_init_79 : decode cX9_init 79 = .ok (.aload_n 0, 1) := by decide +kernel
theorem dX9_init_80 : decode cX9_init 80 = .ok (.iconst 4, 1) := by decide +kernel
theorem dX9_init_81 : decode cX9_init 81 = .ok (.sipush 256, 3) := by decide +kernel
theorem dX9_init_84 : decode cX9_init 84 = .ok (.multianewarray 37 2, 4) := by decide +kernel
theorem dX9_init_88 : decode cX9_init 88 = .ok (.putfield 42, 3) := by decide +kernel
theorem dX9_init_91 : decode cX9_init 91 = .ok (.aload_n 0, 1) := by decide +kernel
theorem dX9_init_92 : decode cX9_init 92 = .ok (.iconst 4, 1) := by decide +kernel
theorem dX9_init_93 : decode cX9_init 93 = .ok (.newarray .int, 2) := by decide +kernel
theorem dX9_init_95 : decode cX9_init 95 = .ok (.putfield 45, 3) := by decide +kernel
theorem dX9_init_98 : decode cX9_init 98 = .ok (.aload_n 0, 1) := by decide +kernel
theorem dX9_init_99 : decode cX9_init 99 = .ok (.iconst 4, 1) := by decide +kernel
theorem dX9_init_100 : decode cX9_init 100 = .ok (.sipush 256, 3) := by decide +kernel
theorem dX9_init_103 : decode cX9_init 103 = .ok (.multianewarray 26 2, 4) := by decide +kernel
theorem dX9_init_107 : decode cX9_init 107 = .ok (.putfield 48, 3) := by decide +kernel
theorem dX9_init_110 : decode cX9_init 110 = .ok (.aload_n 0, 1) := by decide +kernel
theorem dX9_init_111 : decode cX9_init 111 = .ok (.iconst 4, 1) := by decide +kernel
theorem dX9_init_112 : decode cX9_init 112 = .ok (.sipush 256, 3) := by decide +kernel
theorem dX9_init_115 : decode cX9_init 115 = .ok (.multianewarray 26 2, 4) := by decide +kernel
theorem dX9_init_119 : decode cX9_init 119 = .ok (.putfield 51, 3) := by decide +kernel
theorem dX9_init_122 : decode cX9_init 122 = .ok (.aload_n 0, 1) := by decide +kernel
theorem dX9_init_123 : decode cX9_init 123 = .ok (.iconst 4, 1) := by decide +kernel
theorem dX9_init_124 : decode cX9_init 124 = .ok (.newarray .int, 2) := by decide +kernel
theorem dX9_init_126 : decode cX9_init 126 = .ok (.putfield 54, 3) := by decide +kernel
theorem dX9_init_129 : decode cX9_init 129 = .ok (.aload_n 0, 1) := by decide +kernel
theorem dX9_init_130 : decode cX9_init 130 = .ok (.iconst 3, 1) := by decide +kernel
theorem dX9_init_131 : decode cX9_init 131 = .ok (.newarray .int, 2) := by decide +kernel
theorem dX9_init_133 : decode cX9_init 133 = .ok (.putfield 57, 3) := by decide +kernel
theorem dX9_init_136 : decode cX9_init 136 = .ok (.aload_n 0, 1) := by decide +kernel
theorem dX9_init_137 : decode cX9_init 137 = .ok (.bipush 8, 2) := by decide +kernel
theorem dX9_init_139 : decode cX9_init 139 = .ok (.newarray .int, 2) := by decide +kernel
theorem dX9_init_141 : decode cX9_init 141 = .ok (.putfield 60, 3) := by decide +kernel
theorem dX9_init_144 : decode cX9_init 144 = .ok (.aload_n 0, 1) := by decide +kernel
theorem dX9_init_145 : decode cX9_init 145 = .ok (.bipush 120, 2) := by decide +kernel
theorem dX9_init_147 : decode cX9_init 147 = .ok (.newarray .byte, 2) := by decide +kernel
theorem dX9_init_149 : decode cX9_init 149 = .ok (.putfield 63, 3) := by decide +kernel
theorem dX9_init_152 : decode cX9_init 152 = .ok (.aload_n 0, 1) := by decide +kernel
theorem dX9_init_153 : decode cX9_init 153 = .ok (.bipush 12, 2) := by decide +kernel
theorem dX9_init_155 : decode cX9_init 155 = .ok (.newarray .int, 2) := by decide +kernel
theorem dX9_init_157 : decode cX9_init 157 = .ok (.putfield 67, 3) := by decide +kernel
theorem dX9_init_160 : decode cX9_init 160 = .ok (.aload_n 0, 1) := by decide +kernel
theorem dX9_init_161 : decode cX9_init 161 = .ok (.bipush 12, 2) := by decide +kernel
theorem dX9_init_163 : decode cX9_init 163 = .ok (.newarray .int, 2) := by decide +kernel
theorem dX9_init_165 : decode cX9_init 165 = .ok (.putfield 70, 3) := by decide +kernel
theorem dX9_init_168 : decode cX9_init 168 = .ok (.aload_n 0, 1) := by decide +kernel
theorem dX9_init_169 : decode cX9_init 169 = .ok (.sipush 1280, 3) := by decide +kernel
theorem dX9_init_172 : decode cX9_init 172 = .ok (.newarray .byte, 2) := by decide +kernel
theorem dX9_init_174 : decode cX9_init 174 = .ok (.putfield 73, 3) := by decide +kernel
theorem dX9_init_177 : decode cX9_init 177 = .ok (.aload_n 0, 1) := by decide +kernel
theorem dX9_init_178 : decode cX9_init 178 = .ok (.iconst 4, 1) := by decide +kernel
theorem dX9_init_179 : decode cX9_init 179 = .ok (.newarray .int, 2) := by decide +kernel
theorem dX9_init_181 : decode cX9_init 181 = .ok (.putfield 76, 3) := by decide +kernel
theorem dX9_init_184 : decode cX9_init 184 = .ok (.aload_n 0, 1) := by decide +kernel
theorem dX9_init_185 : decode cX9_init 185 = .ok (.iconst 4, 1) := by decide +kernel
theorem dX9_init_186 : decode cX9_init 186 = .ok (.bipush 40, 2) := by decide +kernel
theorem dX9_init_188 : decode cX9_init 188 = .ok (.multianewarray 37 2, 4) := by decide +kernel
theorem dX9_init_192 : decode cX9_init 192 = .ok (.putfield 79, 3) := by decide +kernel
theorem dX9_init_195 : decode cX9_init 195 = .ok (.aload_n 0, 1) := by decide +kernel
theorem dX9_init_196 : decode cX9_init 196 = .ok (.sipush 256, 3) := by decide +kernel
theorem dX9_init_199 : decode cX9_init 199 = .ok (.newarray .boolean, 2) := by decide +kernel
theorem dX9_init_201 : decode cX9_init 201 = .ok (.putfield 82, 3) := by decide +kernel
theorem dX9_init_204 : decode cX9_init 204 = .ok (.aload_n 0, 1) := by decide +kernel
theorem dX9_init_205 : decode cX9_init 205 = .ok (.iconst 4, 1) := by decide +kernel
theorem dX9_init_206 : decode cX9_init 206 = .ok (.sipush 256, 3) := by decide +kernel
theorem dX9_init_209 : decode cX9_init 209 = .ok (.multianewarray 26 2, 4) := by decide +kernel
theorem dX9_init_213 : decode cX9_init 213 = .ok (.putfield 85, 3) := by decide +kernel
theorem dX9_init_216 : decode cX9_init 216 = .ok (.aload_n 0, 1) := by decide +kernel
theorem dX9_init_217 : decode cX9_init 217 = .ok (.iconst 4, 1) := by decide +kernel
theorem dX9_init_218 : decode cX9_init 218 = .ok (.newarray .int, 2) := by decide +kernel
theorem dX9_init_220 : decode cX9_init 220 = .ok (.putfield 88, 3) := by decide +kernel
theorem dX9_init_223 : decode cX9_init 223 = .ok (.iconst 0, 1) := by decide +kernel
theorem dX9_init_224 : decode cX9_init 224 = .ok (.istore_n 1, 1) := by decide +kernel
theorem dX9_init_225 : decode cX9_init 225 = .ok (.iload_n 1, 1) := by decide +kernel
theorem dX9_init_226 : decode cX9_init 226 = .ok (.iconst 4, 1) := by decide +kernel
theorem dX9_init_227 : decode cX9_init 227 = .ok (.if_icmp .ge 16, 3) := by decide +kernel
theorem dX9_init_230 : decode cX9_init 230 = .ok (.aload_n 0, 1) := by decide +kernel
theorem dX9_init_231 : decode cX9_init 231 = .ok (.getfield 76, 3) := by decide +kernel
theorem dX9_init_234 : decode cX9_init 234 = .ok (.iload_n 1, 1) := by decide +kernel
theorem dX9_init_235 : decode cX9_init 235 = .ok (.iconst (-1), 1) := by decide +kernel
theorem dX9_init_236 : decode cX9_init 236 = .ok (.iastore, 1) := by decide +kernel
theorem dX9_init_237 : decode cX9_init 237 = .ok (.iinc 1 1, 3) := by decide +kernel
theorem dX9_init_240 : decode cX9_init 240 = .ok (.goto (-15), 3) := by decide +kernel
theorem dX9_init_243 : decode cX9_init 243 = .ok (.return_, 1) := by decide +kernel
theorem dX9_in_0 : decode cX9_in 0 = .ok (.iload_n 0, 1) := by decide +kernel
theorem dX9_in_1 : decode cX9_in 1 = .ok (.iload_n 1, 1) := by decide +kernel
theorem dX9_in_2 : decode cX9_in 2 = .ok (.if_icmp .lt 12, 3) := by decide +kernel
theorem dX9_in_5 : decode cX9_in 5 = .ok (.iload_n 0, 1) := by decide +kernel
theorem dX9_in_6 : decode cX9_in 6 = .ok (.iload_n 2, 1) := by decide +kernel
theorem dX9_in_7 : decode cX9_in 7 = .ok (.if_icmp .gt 7, 3) := by decide +kernel
theorem dX9_in_10 : decode cX9_in 10 = .ok (.iconst 1, 1) := by decide +kernel
theorem dX9_in_11 : decode cX9_in 11 = .ok (.goto 4, 3) := by decide +kernel
theorem dX9_in_14 : decode cX9_in 14 = .ok (.iconst 0, 1) := by decide +kernel
theorem dX9_in_15 : decode cX9_in 15 = .ok (.ireturn, 1) := by decide +kernel
theorem dX9_isSet_0 : decode cX9_isSet 0 = .ok (.iload_n 0, 1) := by decide +kernel
theorem dX9_isSet_1 : decode cX9_isSet 1 = .ok (.iconst 1, 1) := by decide +kernel
theorem dX9_isSet_2 : decode cX9_isSet 2 = .ok (.sipush 255, 3) := by decide +kernel
theorem dX9_isSet_5 : decode cX9_isSet 5 = .ok (.invokestatic 91, 3) := by decide +kernel
theorem dX9_isSet_8 : decode cX9_isSet 8 = .ok (.ireturn, 1) := by decide +kernel
theorem dX9_many_0 : decode cX9_many 0 = .ok (.iload_n 0, 1) := by decide +kernel
theorem dX9_many_1 : decode cX9_many 1 = .ok (.invokestatic 95, 3) := by decide +kernel
theorem dX9_many_4 : decode cX9_many 4 = .ok (.ireturn, 1) := by decide +kernel
theorem dX9_bodiesOf_0 : decode cX9_bodiesOf 0 = .ok (.iconst 0, 1) := by decide +kernel
theorem dX9_bodiesOf_1 : decode cX9_bodiesOf 1 = .ok (.istore_n 1, 1) := by decide +kernel
theorem dX9_bodiesOf_2 : decode cX9_bodiesOf 2 = .ok (.iconst 1, 1) := by decide +kernel
theorem dX9_bodiesOf_3 : decode cX9_bodiesOf 3 = .ok (.istore_n 2, 1) := by decide +kernel
theorem dX9_bodiesOf_4 : decode cX9_bodiesOf 4 = .ok (.iload_n 2, 1) := by decide +kernel
theorem dX9_bodiesOf_5 : decode cX9_bodiesOf 5 = .ok (.sipush 256, 3) := by decide +kernel
theorem dX9_bodiesOf_8 : decode cX9_bodiesOf 8 = .ok (.if_icmp .ge 18, 3) := by decide +kernel
theorem dX9_bodiesOf_11 : decode cX9_bodiesOf 11 = .ok (.aload_n 0, 1) := by decide +kernel
theorem dX9_bodiesOf_12 : decode cX9_bodiesOf 12 = .ok (.iload_n 2, 1) := by decide +kernel
theorem dX9_bodiesOf_13 : decode cX9_bodiesOf 13 = .ok (.baload, 1) := by decide +kernel
theorem dX9_bodiesOf_14 : decode cX9_bodiesOf 14 = .ok (.ifCond .eq 6, 3) := by decide +kernel
theorem dX9_bodiesOf_17 : decode cX9_bodiesOf 17 = .ok (.iinc 1 1, 3) := by decide +kernel
theorem dX9_bodiesOf_20 : decode cX9_bodiesOf 20 = .ok (.iinc 2 1, 3) := by decide +kernel
theorem dX9_bodiesOf_23 : decode cX9_bodiesOf 23 = .ok (.goto (-19), 3) := by decide +kernel
theorem dX9_bodiesOf_26 : decode cX9_bodiesOf 26 = .ok (.iload_n 1, 1) := by decide +kernel
theorem dX9_bodiesOf_27 : decode cX9_bodiesOf 27 = .ok (.ireturn, 1) := by decide +kernel
theorem dX9_lays_0 : decode cX9_lays 0 = .ok (.aload_n 0, 1) := by decide +kernel
theorem dX9_lays_1 : decode cX9_lays 1 = .ok (.iconst 0, 1) := by decide +kernel
theorem dX9_lays_2 : decode cX9_lays 2 = .ok (.aload_n 1, 1) := by decide +kernel
theorem dX9_lays_3 : decode cX9_lays 3 = .ok (.iconst 0, 1) := by decide +kernel
theorem dX9_lays_4 : decode cX9_lays 4 = .ok (.sipush 256, 3) := by decide +kernel
theorem dX9_lays_7 : decode cX9_lays 7 = .ok (.invokestatic 101, 3) := by decide +kernel
theorem dX9_lays_10 : decode cX9_lays 10 = .ok (.return_, 1) := by decide +kernel
theorem dX9_layFaces_0 : decode cX9_layFaces 0 = .ok (.aload_n 0, 1) := by decide +kernel
theorem dX9_layFaces_1 : decode cX9_layFaces 1 = .ok (.iconst 0, 1) := by decide +kernel
theorem dX9_layFaces_2 : decode cX9_layFaces 2 = .ok (.putfield 107, 3) := by decide +kernel
theorem dX9_layFaces_5 : decode cX9_layFaces 5 = .ok (.iconst 0, 1) := by decide +kernel
theorem dX9_layFaces_6 : decode cX9_layFaces 6 = .ok (.istore_n 2, 1) := by decide +kernel
theorem dX9_layFaces_7 : decode cX9_layFaces 7 = .ok (.iload_n 2, 1) := by decide +kernel
theorem dX9_layFaces_8 : decode cX9_layFaces 8 = .ok (.sipush 256, 3) := by decide +kernel
theorem dX9_layFaces_11 : decode cX9_layFaces 11 = .ok (.if_icmp .ge 23, 3) := by decide +kernel
theorem dX9_layFaces_14 : decode cX9_layFaces 14 = .ok (.aload_n 0, 1) := by decide +kernel
theorem dX9_layFaces_15 : decode cX9_layFaces 15 = .ok (.getfield 19, 3) := by decide +kernel
theorem dX9_layFaces_18 : decode cX9_layFaces 18 = .ok (.iload_n 2, 1) := by decide +kernel
theorem dX9_layFaces_19 : decode cX9_layFaces 19 = .ok (.iconst 0, 1) := by decide +kernel
theorem dX9_layFaces_20 : decode cX9_layFaces 20 = .ok (.bastore, 1) := by decide +kernel
theorem dX9_layFaces_21 : decode cX9_layFaces 21 = .ok (.aload_n 0, 1) := by decide +kernel
theorem dX9_layFaces_22 : decode cX9_layFaces 22 = .ok (.getfield 22, 3) := by decide +kernel
theorem dX9_layFaces_25 : decode cX9_layFaces 25 = .ok (.iload_n 2, 1) := by decide +kernel
theorem dX9_layFaces_26 : decode cX9_layFaces 26 = .ok (.iconst 0, 1) := by decide +kernel
theorem dX9_layFaces_27 : decode cX9_layFaces 27 = .ok (.iastore, 1) := by decide +kernel
theorem dX9_layFaces_28 : decode cX9_layFaces 28 = .ok (.iinc 2 1, 3) := by decide +kernel
theorem dX9_layFaces_31 : decode cX9_layFaces 31 = .ok (.goto (-24), 3) := by decide +kernel
theorem dX9_layFaces_34 : decode cX9_layFaces 34 = .ok (.iconst 1, 1) := by decide +kernel
theorem dX9_layFaces_35 : decode cX9_layFaces 35 = .ok (.istore_n 2, 1) := by decide +kernel
theorem dX9_layFaces_36 : decode cX9_layFaces 36 = .ok (.iload_n 2, 1) := by decide +kernel
theorem dX9_layFaces_37 : decode cX9_layFaces 37 = .ok (.sipush 256, 3) := by decide +kernel
theorem dX9_layFaces_40 : decode cX9_layFaces 40 = .ok (.if_icmp .ge 60, 3) := by decide +kernel
theorem dX9_layFaces_43 : decode cX9_layFaces 43 = .ok (.aload_n 1, 1) := by decide +kernel
theorem dX9_layFaces_44 : decode cX9_layFaces 44 = .ok (.iload_n 2, 1) := by decide +kernel
theorem dX9_layFaces_45 : decode cX9_layFaces 45 = .ok (.baload, 1) := by decide +kernel
theorem dX9_layFaces_46 : decode cX9_layFaces 46 = .ok (.ifCond .ne 6, 3) := by decide +kernel
theorem dX9_layFaces_49 : decode cX9_layFaces 49 = .ok (.goto 45, 3) := by decide +kernel
theorem dX9_layFaces_52 : decode cX9_layFaces 52 = .ok (.aload_n 0, 1) := by decide +kernel
theorem dX9_layFaces_53 : decode cX9_layFaces 53 = .ok (.dup, 1) := by decide +kernel
theorem dX9_layFaces_54 : decode cX9_layFaces 54 = .ok (.getfield 107, 3) := by decide +kernel
theorem dX9_layFaces_57 : decode cX9_layFaces 57 = .ok (.iload_n 2, 1) := by decide +kernel
theorem dX9_layFaces_58 : decode cX9_layFaces 58 = .ok (.ior, 1) := by decide +kernel
theorem dX9_layFaces_59 : decode cX9_layFaces 59 = .ok (.putfield 107, 3) := by decide +kernel
theorem dX9_layFaces_62 : decode cX9_layFaces 62 = .ok (.iload_n 2, 1) := by decide +kernel
theorem dX9_layFaces_63 : decode cX9_layFaces 63 = .ok (.istore_n 3, 1) := by decide +kernel
theorem dX9_layFaces_64 : decode cX9_layFaces 64 = .ok (.iload_n 3, 1) := by decide +kernel
theorem dX9_layFaces_65 : decode cX9_layFaces 65 = .ok (.ifCond .le 29, 3) := by decide +kernel
theorem dX9_layFaces_68 : decode cX9_layFaces 68 = .ok (.aload_n 0, 1) := by decide +kernel
theorem dX9_layFaces_69 : decode cX9_layFaces 69 = .ok (.getfield 19, 3) := by decide +kernel
theorem dX9_layFaces_72 : decode cX9_layFaces 72 = .ok (.iload_n 3, 1) := by decide +kernel
theorem dX9_layFaces_73 : decode cX9_layFaces 73 = .ok (.iconst 1, 1) := by decide +kernel
theorem dX9_layFaces_74 : decode cX9_layFaces 74 = .ok (.bastore, 1) := by decide +kernel
theorem dX9_layFaces_75 : decode cX9_layFaces 75 = .ok (.aload_n 0, 1) := by decide +kernel
theorem dX9_layFaces_76 : decode cX9_layFaces 76 = .ok (.getfield 22, 3) := by decide +kernel
theorem dX9_layFaces_79 : decode cX9_layFaces 79 = .ok (.iload_n 3, 1) := by decide +kernel
theorem dX9_layFaces_80 : decode cX9_layFaces 80 = .ok (.dup2, 1) := by decide +kernel
theorem dX9_layFaces_81 : decode cX9_layFaces 81 = .ok (.iaload, 1) := by decide +kernel
theorem dX9_layFaces_82 : decode cX9_layFaces 82 = .ok (.iconst 1, 1) := by decide +kernel
theorem dX9_layFaces_83 : decode cX9_layFaces 83 = .ok (.iadd, 1) := by decide +kernel
theorem dX9_layFaces_84 : decode cX9_layFaces 84 = .ok (.iastore, 1) := by decide +kernel
theorem dX9_layFaces_85 : decode cX9_layFaces 85 = .ok (.iload_n 3, 1) := by decide +kernel
theorem dX9_layFaces_86 : decode cX9_layFaces 86 = .ok (.iconst 1, 1) := by decide +kernel
theorem dX9_layFaces_87 : decode cX9_layFaces 87 = .ok (.isub, 1) := by decide +kernel
theorem dX9_layFaces_88 : decode cX9_layFaces 88 = .ok (.iload_n 2, 1) := by decide +kernel
theorem dX9_layFaces_89 : decode cX9_layFaces 89 = .ok (.iand, 1) := by decide +kernel
theorem dX9_layFaces_90 : decode cX9_layFaces 90 = .ok (.istore_n 3, 1) := by decide +kernel
theorem dX9_layFaces_91 : decode cX9_layFaces 91 = .ok (.goto (-27), 3) := by decide +kernel
theorem dX9_layFaces_94 : decode cX9_layFaces 94 = .ok (.iinc 2 1, 3) := by decide +kernel
theorem dX9_layFaces_97 : decode cX9_layFaces 97 = .ok (.goto (-61), 3) := by decide +kernel
theorem dX9_layFaces_100 : decode cX9_layFaces 100 = .ok (.return_, 1) := by decide +kernel
theorem dX9_linkOf_0 : decode cX9_linkOf 0 = .ok (.aload_n 0, 1) := by decide +kernel
theorem dX9_linkOf_1 : decode cX9_linkOf 1 = .ok (.getfield 19, 3) := by decide +kernel
theorem dX9_linkOf_4 : decode cX9_linkOf 4 = .ok (.iload_n 1, 1) := by decide +kernel
theorem dX9_linkOf_5 : decode cX9_linkOf 5 = .ok (.baload, 1) := by decide +kernel
theorem dX9_linkOf_6 : decode cX9_linkOf 6 = .ok (.ifCond .ne 5, 3) := by decide +kernel
theorem dX9_linkOf_9 : decode cX9_linkOf 9 = .ok (.iconst 0, 1) := by decide +kernel
theorem dX9_linkOf_10 : decode cX9_linkOf 10 = .ok (.ireturn, 1) := by decide +kernel
theorem dX9_linkOf_11 : decode cX9_linkOf 11 = .ok (.iconst 0, 1) := by decide +kernel
theorem dX9_linkOf_12 : decode cX9_linkOf 12 = .ok (.istore_n 2, 1) := by decide +kernel
theorem dX9_linkOf_13 : decode cX9_linkOf 13 = .ok (.iconst 0, 1) := by decide +kernel
theorem dX9_linkOf_14 : decode cX9_linkOf 14 = .ok (.istore_n 3, 1) := by decide +kernel
theorem dX9_linkOf_15 : decode cX9_linkOf 15 = .ok (.iload_n 3, 1) := by decide +kernel
theorem dX9_linkOf_16 : decode cX9_linkOf 16 = .ok (.sipush 256, 3) := by decide +kernel
theorem dX9_linkOf_19 : decode cX9_linkOf 19 = .ok (.if_icmp .ge 29, 3) := by decide +kernel
theorem dX9_linkOf_22 : decode cX9_linkOf 22 = .ok (.iload_n 3, 1) := by decide +kernel
theorem dX9_linkOf_23 : decode cX9_linkOf 23 = .ok (.iload_n 1, 1) := by decide +kernel
theorem dX9_linkOf_24 : decode cX9_linkOf 24 = .ok (.iand, 1) := by decide +kernel
theorem dX9_linkOf_25 : decode cX9_linkOf 25 = .ok (.ifCond .ne 17, 3) := by decide +kernel
theorem dX9_linkOf_28 : decode cX9_linkOf 28 = .ok (.aload_n 0, 1) := by decide +kernel
theorem dX9_linkOf_29 : decode cX9_linkOf 29 = .ok (.getfield 19, 3) := by decide +kernel
theorem dX9_linkOf_32 : decode cX9_linkOf 32 = .ok (.iload_n 3, 1) := by decide +kernel
theorem dX9_linkOf_33 : decode cX9_linkOf 33 = .ok (.iload_n 1, 1) := by decide +kernel
theorem dX9_linkOf_34 : decode cX9_linkOf 34 = .ok (.ior, 1) := by decide +kernel
theorem dX9_linkOf_35 : decode cX9_linkOf 35 = .ok (.baload, 1) := by decide +kernel
theorem dX9_linkOf_36 : decode cX9_linkOf 36 = .ok (.ifCond .eq 6, 3) := by decide +kernel
theorem dX9_linkOf_39 : decode cX9_linkOf 39 = .ok (.iinc 2 1, 3) := by decide +kernel
theorem dX9_linkOf_42 : decode cX9_linkOf 42 = .ok (.iinc 3 1, 3) := by decide +kernel
theorem dX9_linkOf_45 : decode cX9_linkOf 45 = .ok (.goto (-30), 3) := by decide +kernel
theorem dX9_linkOf_48 : decode cX9_linkOf 48 = .ok (.iload_n 2, 1) := by decide +kernel
theorem dX9_linkOf_49 : decode cX9_linkOf 49 = .ok (.ireturn, 1) := by decide +kernel
theorem dX9_linked_0 : decode cX9_linked 0 = .ok (.aload_n 0, 1) := by decide +kernel
theorem dX9_linked_1 : decode cX9_linked 1 = .ok (.getfield 19, 3) := by decide +kernel
theorem dX9_linked_4 : decode cX9_linked 4 = .ok (.iload_n 1, 1) := by decide +kernel
theorem dX9_linked_5 : decode cX9_linked 5 = .ok (.baload, 1) := by decide +kernel
theorem dX9_linked_6 : decode cX9_linked 6 = .ok (.ifCond .ne 5, 3) := by decide +kernel
theorem dX9_linked_9 : decode cX9_linked 9 = .ok (.iconst 0, 1) := by decide +kernel
theorem dX9_linked_10 : decode cX9_linked 10 = .ok (.ireturn, 1) := by decide +kernel
theorem dX9_linked_11 : decode cX9_linked 11 = .ok (.iconst 0, 1) := by decide +kernel
theorem dX9_linked_12 : decode cX9_linked 12 = .ok (.istore_n 2, 1) := by decide +kernel
theorem dX9_linked_13 : decode cX9_linked 13 = .ok (.iconst 0, 1) := by decide +kernel
theorem dX9_linked_14 : decode cX9_linked 14 = .ok (.istore_n 3, 1) := by decide +kernel
theorem dX9_linked_15 : decode cX9_linked 15 = .ok (.iload_n 3, 1) := by decide +kernel
theorem dX9_linked_16 : decode cX9_linked 16 = .ok (.sipush 256, 3) := by decide +kernel
theorem dX9_linked_19 : decode cX9_linked 19 = .ok (.if_icmp .ge 30, 3) := by decide +kernel
theorem dX9_linked_22 : decode cX9_linked 22 = .ok (.iload_n 3, 1) := by decide +kernel
theorem dX9_linked_23 : decode cX9_linked 23 = .ok (.iload_n 1, 1) := by decide +kernel
theorem dX9_linked_24 : decode cX9_linked 24 = .ok (.iand, 1) := by decide +kernel
theorem dX9_linked_25 : decode cX9_linked 25 = .ok (.ifCond .ne 18, 3) := by decide +kernel
theorem dX9_linked_28 : decode cX9_linked 28 = .ok (.aload_n 0, 1) := by decide +kernel
theorem dX9_linked_29 : decode cX9_linked 29 = .ok (.getfield 19, 3) := by decide +kernel
theorem dX9_linked_32 : decode cX9_linked 32 = .ok (.iload_n 3, 1) := by decide +kernel
theorem dX9_linked_33 : decode cX9_linked 33 = .ok (.iload_n 1, 1) := by decide +kernel
theorem dX9_linked_34 : decode cX9_linked 34 = .ok (.ior, 1) := by decide +kernel
theorem dX9_linked_35 : decode cX9_linked 35 = .ok (.baload, 1) := by decide +kernel
theorem dX9_linked_36 : decode cX9_linked 36 = .ok (.ifCond .eq 7, 3) := by decide +kernel
theorem dX9_linked_39 : decode cX9_linked 39 = .ok (.iload_n 2, 1) := by decide +kernel
theorem dX9_linked_40 : decode cX9_linked 40 = .ok (.iload_n 3, 1) := by decide +kernel
theorem dX9_linked_41 : decode cX9_linked 41 = .ok (.ior, 1) := by decide +kernel
theorem dX9_linked_42 : decode cX9_linked 42 = .ok (.istore_n 2, 1) := by decide +kernel
theorem dX9_linked_43 : decode cX9_linked 43 = .ok (.iinc 3 1, 3) := by decide +kernel
theorem dX9_linked_46 : decode cX9_linked 46 = .ok (.goto (-31), 3) := by decide +kernel
theorem dX9_linked_49 : decode cX9_linked 49 = .ok (.iload_n 2, 1) := by decide +kernel
theorem dX9_linked_50 : decode cX9_linked 50 = .ok (.ireturn, 1) := by decide +kernel
theorem dX9_facesOf_0 : decode cX9_facesOf 0 = .ok (.iconst 0, 1) := by decide +kernel
theorem dX9_facesOf_1 : decode cX9_facesOf 1 = .ok (.istore_n 2, 1) := by decide +kernel
theorem dX9_facesOf_2 : decode cX9_facesOf 2 = .ok (.iconst 1, 1) := by decide +kernel
theorem dX9_facesOf_3 : decode cX9_facesOf 3 = .ok (.istore_n 3, 1) := by decide +kernel
theorem dX9_facesOf_4 : decode cX9_facesOf 4 = .ok (.iload_n 3, 1) := by decide +kernel
theorem dX9_facesOf_5 : decode cX9_facesOf 5 = .ok (.sipush 256, 3) := by decide +kernel
theorem dX9_facesOf_8 : decode cX9_facesOf 8 = .ok (.if_icmp .ge 29, 3) := by decide +kernel
theorem dX9_facesOf_11 : decode cX9_facesOf 11 = .ok (.aload_n 0, 1) := by decide +kernel
theorem dX9_facesOf_12 : decode cX9_facesOf 12 = .ok (.getfield 19, 3) := by decide +kernel
theorem dX9_facesOf_15 : decode cX9_facesOf 15 = .ok (.iload_n 3, 1) := by decide +kernel
theorem dX9_facesOf_16 : decode cX9_facesOf 16 = .ok (.baload, 1) := by decide +kernel
theorem dX9_facesOf_17 : decode cX9_facesOf 17 = .ok (.ifCond .eq 14, 3) := by decide +kernel
theorem dX9_facesOf_20 : decode cX9_facesOf 20 = .ok (.iload_n 3, 1) := by decide +kernel
theorem dX9_facesOf_21 : decode cX9_facesOf 21 = .ok (.invokestatic 110, 3) := by decide +kernel
theorem dX9_facesOf_24 : decode cX9_facesOf 24 = .ok (.iload_n 1, 1) := by decide +kernel
theorem dX9_facesOf_25 : decode cX9_facesOf 25 = .ok (.if_icmp .ne 6, 3) := by decide +kernel
theorem dX9_facesOf_28 : decode cX9_facesOf 28 = .ok (.iinc 2 1, 3) := by decide +kernel
theorem dX9_facesOf_31 : decode cX9_facesOf 31 = .ok (.iinc 3 1, 3) := by decide +kernel
theorem dX9_facesOf_34 : decode cX9_facesOf 34 = .ok (.goto (-30), 3) := by decide +kernel
theorem dX9_facesOf_37 : decode cX9_facesOf 37 = .ok (.iload_n 2, 1) := by decide +kernel
theorem dX9_facesOf_38 : decode cX9_facesOf 38 = .ok (.ireturn, 1) := by decide +kernel
theorem dX9_euler_0 : decode cX9_euler 0 = .ok (.aload_n 0, 1) := by decide +kernel
theorem dX9_euler_1 : decode cX9_euler 1 = .ok (.iconst 1, 1) := by decide +kernel
theorem dX9_euler_2 : decode cX9_euler 2 = .ok (.invokevirtual 113, 3) := by decide +kernel
theorem dX9_euler_5 : decode cX9_euler 5 = .ok (.aload_n 0, 1) := by decide +kernel
theorem dX9_euler_6 : decode cX9_euler 6 = .ok (.iconst 2, 1) := by decide +kernel
theorem dX9_euler_7 : decode cX9_euler 7 = .ok (.invokevirtual 113, 3) := by decide +kernel
theorem dX9_euler_10 : decode cX9_euler 10 = .ok (.isub, 1) := by decide +kernel
theorem dX9_euler_11 : decode cX9_euler 11 = .ok (.aload_n 0, 1) := by decide +kernel
theorem dX9_euler_12 : decode cX9_euler 12 = .ok (.iconst 3, 1) := by decide +kernel
theorem dX9_euler_13 : decode cX9_euler 13 = .ok (.invokevirtual 113, 3) := by decide +kernel
theorem dX9_euler_16 : decode cX9_euler 16 = .ok (.iadd, 1) := by decide +kernel
theorem dX9_euler_17 : decode cX9_euler 17 = .ok (.aload_n 0, 1) := by decide +kernel
theorem dX9_euler_18 : decode cX9_euler 18 = .ok (.iconst 4, 1) := by decide +kernel
theorem dX9_euler_19 : decode cX9_euler 19 = .ok (.invokevirtual 113, 3) := by decide +kernel
theorem dX9_euler_22 : decode cX9_euler 22 = .ok (.isub, 1) := by decide +kernel
theorem dX9_euler_23 : decode cX9_euler 23 = .ok (.ireturn, 1) := by decide +kernel
theorem dX9_isWall_0 : decode cX9_isWall 0 = .ok (.iload_n 1, 1) := by decide +kernel
theorem dX9_isWall_1 : decode cX9_isWall 1 = .ok (.invokestatic 110, 3) := by decide +kernel
theorem dX9_isWall_4 : decode cX9_isWall 4 = .ok (.iload_n 2, 1) := by decide +kernel
theorem dX9_isWall_5 : decode cX9_isWall 5 = .ok (.iconst 1, 1) := by decide +kernel
theorem dX9_isWall_6 : decode cX9_isWall 6 = .ok (.isub, 1) := by decide +kernel
theorem dX9_isWall_7 : decode cX9_isWall 7 = .ok (.if_icmp .ne 17, 3) := by decide +kernel
theorem dX9_isWall_10 : decode cX9_isWall 10 = .ok (.aload_n 0, 1) := by decide +kernel
theorem dX9_isWall_11 : decode cX9_isWall 11 = .ok (.getfield 22, 3) := by decide +kernel
theorem dX9_isWall_14 : decode cX9_isWall 14 = .ok (.iload_n 1, 1) := by decide +kernel
theorem dX9_isWall_15 : decode cX9_isWall 15 = .ok (.iaload, 1) := by decide +kernel
theorem dX9_isWall_16 : decode cX9_isWall 16 = .ok (.iconst 1, 1) := by decide +kernel
theorem dX9_isWall_17 : decode cX9_isWall 17 = .ok (.if_icmp .ne 7, 3) := by decide +kernel
theorem dX9_isWall_20 : decode cX9_isWall 20 = .ok (.iconst 1, 1) := by decide +kernel
theorem dX9_isWall_21 : decode cX9_isWall 21 = .ok (.goto 4, 3) := by decide +kernel
theorem dX9_isWall_24 : decode cX9_isWall 24 = .ok (.iconst 0, 1) := by decide +kernel
theorem dX9_isWall_25 : decode cX9_isWall 25 = .ok (.ireturn, 1) := by decide +kernel
theorem dX9_walls_0 : decode cX9_walls 0 = .ok (.iconst 0, 1) := by decide +kernel
theorem dX9_walls_1 : decode cX9_walls 1 = .ok (.istore_n 2, 1) := by decide +kernel
theorem dX9_walls_2 : decode cX9_walls 2 = .ok (.iconst 1, 1) := by decide +kernel
theorem dX9_walls_3 : decode cX9_walls 3 = .ok (.istore_n 3, 1) := by decide +kernel
theorem dX9_walls_4 : decode cX9_walls 4 = .ok (.iload_n 3, 1) := by decide +kernel
theorem dX9_walls_5 : decode cX9_walls 5 = .ok (.sipush 256, 3) := by decide +kernel
theorem dX9_walls_8 : decode cX9_walls 8 = .ok (.if_icmp .ge 21, 3) := by decide +kernel
theorem dX9_walls_11 : decode cX9_walls 11 = .ok (.aload_n 0, 1) := by decide +kernel
theorem dX9_walls_12 : decode cX9_walls 12 = .ok (.iload_n 3, 1) := by decide +kernel
theorem dX9_walls_13 : decode cX9_walls 13 = .ok (.iload_n 1, 1) := by decide +kernel
theorem dX9_walls_14 : decode cX9_walls 14 = .ok (.invokevirtual 116, 3) := by decide +kernel
theorem dX9_walls_17 : decode cX9_walls 17 = .ok (.ifCond .eq 6, 3) := by decide +kernel
theorem dX9_walls_20 : decode cX9_walls 20 = .ok (.iinc 2 1, 3) := by decide +kernel
theorem dX9_walls_23 : decode cX9_walls 23 = .ok (.iinc 3 1, 3) := by decide +kernel
theorem dX9_walls_26 : decode cX9_walls 26 = .ok (.goto (-22), 3) := by decide +kernel
theorem dX9_walls_29 : decode cX9_walls 29 = .ok (.iload_n 2, 1) := by decide +kernel
theorem dX9_walls_30 : decode cX9_walls 30 = .ok (.ireturn, 1) := by decide +kernel
theorem dX9_right_0 : decode cX9_right 0 = .ok (.iconst 1, 1) := by decide +kernel
theorem dX9_right_1 : decode cX9_right 1 = .ok (.istore_n 1, 1) := by decide +kernel
theorem dX9_right_2 : decode cX9_right 2 = .ok (.iload_n 1, 1) := by decide +kernel
theorem dX9_right_3 : decode cX9_right 3 = .ok (.sipush 256, 3) := by decide +kernel
theorem dX9_right_6 : decode cX9_right 6 = .ok (.if_icmp .ge 34, 3) := by decide +kernel
theorem dX9_right_9 : decode cX9_right 9 = .ok (.iload_n 1, 1) := by decide +kernel
theorem dX9_right_10 : decode cX9_right 10 = .ok (.invokestatic 110, 3) := by decide +kernel
theorem dX9_right_13 : decode cX9_right 13 = .ok (.aload_n 0, 1) := by decide +kernel
theorem dX9_right_14 : decode cX9_right 14 = .ok (.getfield 9, 3) := by decide +kernel
theorem dX9_right_17 : decode cX9_right 17 = .ok (.iconst 1, 1) := by decide +kernel
theorem dX9_right_18 : decode cX9_right 18 = .ok (.isub, 1) := by decide +kernel
theorem dX9_right_19 : decode cX9_right 19 = .ok (.if_icmp .ne 15, 3) := by decide +kernel
theorem dX9_right_22 : decode cX9_right 22 = .ok (.aload_n 0, 1) := by decide +kernel
theorem dX9_right_23 : decode cX9_right 23 = .ok (.getfield 22, 3) := by decide +kernel
theorem dX9_right_26 : decode cX9_right 26 = .ok (.iload_n 1, 1) := by decide +kernel
theorem dX9_right_27 : decode cX9_right 27 = .ok (.iaload, 1) := by decide +kernel
theorem dX9_right_28 : decode cX9_right 28 = .ok (.iconst 2, 1) := by decide +kernel
theorem dX9_right_29 : decode cX9_right 29 = .ok (.if_icmp .le 5, 3) := by decide +kernel
theorem dX9_right_32 : decode cX9_right 32 = .ok (.iconst 0, 1) := by decide +kernel
theorem dX9_right_33 : decode cX9_right 33 = .ok (.ireturn, 1) := by decide +kernel
theorem dX9_right_34 : decode cX9_right 34 = .ok (.iinc 1 1, 3) := by decide +kernel
theorem dX9_right_37 : decode cX9_right 37 = .ok (.goto (-35), 3) := by decide +kernel
theorem dX9_right_40 : decode cX9_right 40 = .ok (.iconst 1, 1) := by decide +kernel
theorem dX9_right_41 : decode cX9_right 41 = .ok (.ireturn, 1) := by decide +kernel
theorem dX9_remembers_0 : decode cX9_remembers 0 = .ok (.aload_n 0, 1) := by decide +kernel
theorem dX9_remembers_1 : decode cX9_remembers 1 = .ok (.getfield 120, 3) := by decide +kernel
theorem dX9_remembers_4 : decode cX9_remembers 4 = .ok (.bipush 8, 2) := by decide +kernel
theorem dX9_remembers_6 : decode cX9_remembers 6 = .ok (.if_icmp .ne 44, 3) := by decide +kernel
theorem dX9_remembers_9 : decode cX9_remembers 9 = .ok (.iconst 1, 1) := by decide +kernel
theorem dX9_remembers_10 : decode cX9_remembers 10 = .ok (.istore_n 1, 1) := by decide +kernel
theorem dX9_remembers_11 : decode cX9_remembers 11 = .ok (.iload_n 1, 1) := by decide +kernel
theorem dX9_remembers_12 : decode cX9_remembers 12 = .ok (.bipush 8, 2) := by decide +kernel
theorem dX9_remembers_14 : decode cX9_remembers 14 = .ok (.if_icmp .ge 26, 3) := by decide +kernel
theorem dX9_remembers_17 : decode cX9_remembers 17 = .ok (.aload_n 0, 1) := by decide +kernel
theorem dX9_remembers_18 : decode cX9_remembers 18 = .ok (.getfield 28, 3) := by decide +kernel
theorem dX9_remembers_21 : decode cX9_remembers 21 = .ok (.iload_n 1, 1) := by decide +kernel
theorem dX9_remembers_22 : decode cX9_remembers 22 = .ok (.aaload, 1) := by decide +kernel
theorem dX9_remembers_23 : decode cX9_remembers 23 = .ok (.aload_n 0, 1) := by decide +kernel
theorem dX9_remembers_24 : decode cX9_remembers 24 = .ok (.getfield 28, 3) := by decide +kernel
theorem dX9_remembers_27 : decode cX9_remembers 27 = .ok (.iload_n 1, 1) := by decide +kernel
theorem dX9_remembers_28 : decode cX9_remembers 28 = .ok (.iconst 1, 1) := by decide +kernel
theorem dX9_remembers_29 : decode cX9_remembers 29 = .ok (.isub, 1) := by decide +kernel
theorem dX9_remembers_30 : decode cX9_remembers 30 = .ok (.aaload, 1) := by decide +kernel
theorem dX9_remembers_31 : decode cX9_remembers 31 = .ok (.invokestatic 123, 3) := by decide +kernel
theorem dX9_remembers_34 : decode cX9_remembers 34 = .ok (.iinc 1 1, 3) := by decide +kernel
theorem dX9_remembers_37 : decode cX9_remembers 37 = .ok (.goto (-26), 3) := by decide +kernel
theorem dX9_remembers_40 : decode cX9_remembers 40 = .ok (.aload_n 0, 1) := by decide +kernel
theorem dX9_remembers_41 : decode cX9_remembers 41 = .ok (.dup, 1) := by decide +kernel
theorem dX9_remembers_42 : decode cX9_remembers 42 = .ok (.getfield 120, 3) := by decide +kernel
theorem dX9_remembers_45 : decode cX9_remembers 45 = .ok (.iconst 1, 1) := by decide +kernel
theorem dX9_remembers_46 : decode cX9_remembers 46 = .ok (.isub, 1) := by decide +kernel
theorem dX9_remembers_47 : decode cX9_remembers 47 = .ok (.putfield 120, 3) := by decide +kernel
theorem dX9_remembers_50 : decode cX9_remembers 50 = .ok (.aload_n 0, 1) := by decide +kernel
theorem dX9_remembers_51 : decode cX9_remembers 51 = .ok (.getfield 15, 3) := by decide +kernel
theorem dX9_remembers_54 : decode cX9_remembers 54 = .ok (.aload_n 0, 1) := by decide +kernel
theorem dX9_remembers_55 : decode cX9_remembers 55 = .ok (.getfield 28, 3) := by decide +kernel
theorem dX9_remembers_58 : decode cX9_remembers 58 = .ok (.aload_n 0, 1) := by decide +kernel
theorem dX9_remembers_59 : decode cX9_remembers 59 = .ok (.getfield 120, 3) := by decide +kernel
theorem dX9_remembers_62 : decode cX9_remembers 62 = .ok (.aaload, 1) := by decide +kernel
theorem dX9_remembers_63 : decode cX9_remembers 63 = .ok (.invokestatic 123, 3) := by decide +kernel
theorem dX9_remembers_66 : decode cX9_remembers 66 = .ok (.aload_n 0, 1) := by decide +kernel
theorem dX9_remembers_67 : decode cX9_remembers 67 = .ok (.dup, 1) := by decide +kernel
theorem dX9_remembers_68 : decode cX9_remembers 68 = .ok (.getfield 120, 3) := by decide +kernel
theorem dX9_remembers_71 : decode cX9_remembers 71 = .ok (.iconst 1, 1) := by decide +kernel
theorem dX9_remembers_72 : decode cX9_remembers 72 = .ok (.iadd, 1) := by decide +kernel
theorem dX9_remembers_73 : decode cX9_remembers 73 = .ok (.putfield 120, 3) := by decide +kernel
theorem dX9_remembers_76 : decode cX9_remembers 76 = .ok (.return_, 1) := by decide +kernel
theorem dX9_bodies_0 : decode cX9_bodies 0 = .ok (.iload_n 1, 1) := by decide +kernel
theorem dX9_bodies_1 : decode cX9_bodies 1 = .ok (.iconst 3, 1) := by decide +kernel
theorem dX9_bodies_2 : decode cX9_bodies 2 = .ok (.iconst 4, 1) := by decide +kernel
theorem dX9_bodies_3 : decode cX9_bodies 3 = .ok (.invokestatic 91, 3) := by decide +kernel
theorem dX9_bodies_6 : decode cX9_bodies 6 = .ok (.ifCond .ne 6, 3) := by decide +kernel
theorem dX9_bodies_9 : decode cX9_bodies 9 = .ok (.bipush (-2), 2) := by decide +kernel
theorem dX9_bodies_11 : decode cX9_bodies 11 = .ok (.ireturn, 1) := by decide +kernel
theorem dX9_bodies_12 : decode cX9_bodies 12 = .ok (.aload_n 0, 1) := by decide +kernel
theorem dX9_bodies_13 : decode cX9_bodies 13 = .ok (.getfield 9, 3) := by decide +kernel
theorem dX9_bodies_16 : decode cX9_bodies 16 = .ok (.istore_n 2, 1) := by decide +kernel
theorem dX9_bodies_17 : decode cX9_bodies 17 = .ok (.aload_n 0, 1) := by decide +kernel
theorem dX9_bodies_18 : decode cX9_bodies 18 = .ok (.iload_n 1, 1) := by decide +kernel
theorem dX9_bodies_19 : decode cX9_bodies 19 = .ok (.putfield 9, 3) := by decide +kernel
theorem dX9_bodies_22 : decode cX9_bodies 22 = .ok (.iconst 0, 1) := by decide +kernel
theorem dX9_bodies_23 : decode cX9_bodies 23 = .ok (.istore_n 3, 1) := by decide +kernel
theorem dX9_bodies_24 : decode cX9_bodies 24 = .ok (.iload_n 3, 1) := by decide +kernel
theorem dX9_bodies_25 : decode cX9_bodies 25 = .ok (.sipush 256, 3) := by decide +kernel
theorem dX9_bodies_28 : decode cX9_bodies 28 = .ok (.if_icmp .ge 16, 3) := by decide +kernel
theorem dX9_bodies_31 : decode cX9_bodies 31 = .ok (.aload_n 0, 1) := by decide +kernel
theorem dX9_bodies_32 : decode cX9_bodies 32 = .ok (.getfield 15, 3) := by decide +kernel
theorem dX9_bodies_35 : decode cX9_bodies 35 = .ok (.iload_n 3, 1) := by decide +kernel
theorem dX9_bodies_36 : decode cX9_bodies 36 = .ok (.iconst 0, 1) := by decide +kernel
theorem dX9_bodies_37 : decode cX9_bodies 37 = .ok (.bastore, 1) := by decide +kernel
theorem dX9_bodies_38 : decode cX9_bodies 38 = .ok (.iinc 3 1, 3) := by decide +kernel
theorem dX9_bodies_41 : decode cX9_bodies 41 = .ok (.goto (-17), 3) := by decide +kernel
theorem dX9_bodies_44 : decode cX9_bodies 44 = .ok (.aload_n 0, 1) := by decide +kernel
theorem dX9_bodies_45 : decode cX9_bodies 45 = .ok (.iconst 0, 1) := by decide +kernel
theorem dX9_bodies_46 : decode cX9_bodies 46 = .ok (.putfield 120, 3) := by decide +kernel
theorem dX9_bodies_49 : decode cX9_bodies 49 = .ok (.iload_n 2, 1) := by decide +kernel
theorem dX9_bodies_50 : decode cX9_bodies 50 = .ok (.ireturn, 1) := by decide +kernel
theorem dX9_isOne_0 : decode cX9_isOne 0 = .ok (.iload_n 0, 1) := by decide +kernel
theorem dX9_isOne_1 : decode cX9_isOne 1 = .ok (.iconst 3, 1) := by decide +kernel
theorem dX9_isOne_2 : decode cX9_isOne 2 = .ok (.iconst 2, 1) := by decide +kernel
theorem dX9_isOne_3 : decode cX9_isOne 3 = .ok (.iload_n 1, 1) := by decide +kernel
theorem dX9_isOne_4 : decode cX9_isOne 4 = .ok (.imul, 1) := by decide +kernel
theorem dX9_isOne_5 : decode cX9_isOne 5 = .ok (.ishl, 1) := by decide +kernel
theorem dX9_isOne_6 : decode cX9_isOne 6 = .ok (.iand, 1) := by decide +kernel
theorem dX9_isOne_7 : decode cX9_isOne 7 = .ok (.invokestatic 110, 3) := by decide +kernel
theorem dX9_isOne_10 : decode cX9_isOne 10 = .ok (.iconst 1, 1) := by decide +kernel
theorem dX9_isOne_11 : decode cX9_isOne 11 = .ok (.if_icmp .ne 7, 3) := by decide +kernel
theorem dX9_isOne_14 : decode cX9_isOne 14 = .ok (.iconst 1, 1) := by decide +kernel
theorem dX9_isOne_15 : decode cX9_isOne 15 = .ok (.goto 4, 3) := by decide +kernel
theorem dX9_isOne_18 : decode cX9_isOne 18 = .ok (.iconst 0, 1) := by decide +kernel
theorem dX9_isOne_19 : decode cX9_isOne 19 = .ok (.ireturn, 1) := by decide +kernel
theorem dX9_isCross_0 : decode cX9_isCross 0 = .ok (.iload_n 1, 1) := by decide +kernel
theorem dX9_isCross_1 : decode cX9_isCross 1 = .ok (.invokestatic 110, 3) := by decide +kernel
theorem dX9_isCross_4 : decode cX9_isCross 4 = .ok (.aload_n 0, 1) := by decide +kernel
theorem dX9_isCross_5 : decode cX9_isCross 5 = .ok (.getfield 9, 3) := by decide +kernel
theorem dX9_isCross_8 : decode cX9_isCross 8 = .ok (.if_icmp .ne 7, 3) := by decide +kernel
theorem dX9_isCross_11 : decode cX9_isCross 11 = .ok (.iconst 1, 1) := by decide +kernel
theorem dX9_isCross_12 : decode cX9_isCross 12 = .ok (.goto 4, 3) := by decide +kernel
theorem dX9_isCross_15 : decode cX9_isCross 15 = .ok (.iconst 0, 1) := by decide +kernel
theorem dX9_isCross_16 : decode cX9_isCross 16 = .ok (.istore_n 2, 1) := by decide +kernel
theorem dX9_isCross_17 : decode cX9_isCross 17 = .ok (.iconst 0, 1) := by decide +kernel
theorem dX9_isCross_18 : decode cX9_isCross 18 = .ok (.istore_n 3, 1) := by decide +kernel
theorem dX9_isCross_19 : decode cX9_isCross 19 = .ok (.iload_n 3, 1) := by decide +kernel
theorem dX9_isCross_20 : decode cX9_isCross 20 = .ok (.aload_n 0, 1) := by decide +kernel
theorem dX9_isCross_21 : decode cX9_isCross 21 = .ok (.getfield 9, 3) := by decide +kernel
theorem dX9_isCross_24 : decode cX9_isCross 24 = .ok (.if_icmp .ge 17, 3) := by decide +kernel
theorem dX9_isCross_27 : decode cX9_isCross 27 = .ok (.iload_n 2, 1) := by decide +kernel
theorem dX9_isCross_28 : decode cX9_isCross 28 = .ok (.iload_n 1, 1) := by decide +kernel
theorem dX9_isCross_29 : decode cX9_isCross 29 = .ok (.iload_n 3, 1) := by decide +kernel
theorem dX9_isCross_30 : decode cX9_isCross 30 = .ok (.invokestatic 127, 3) := by decide +kernel
theorem dX9_isCross_33 : decode cX9_isCross 33 = .ok (.iand, 1) := by decide +kernel
theorem dX9_isCross_34 : decode cX9_isCross 34 = .ok (.istore_n 2, 1) := by decide +kernel
theorem dX9_isCross_35 : decode cX9_isCross 35 = .ok (.iinc 3 1, 3) := by decide +kernel
theorem dX9_isCross_38 : decode cX9_isCross 38 = .ok (.goto (-19), 3) := by decide +kernel
theorem dX9_isCross_41 : decode cX9_isCross 41 = .ok (.iload_n 2, 1) := by decide +kernel
theorem dX9_isCross_42 : decode cX9_isCross 42 = .ok (.ireturn, 1) := by decide +kernel
theorem dX9_run_0 : decode cX9_run 0 = .ok (.iconst 0, 1) := by decide +kernel
theorem dX9_run_1 : decode cX9_run 1 = .ok (.istore_n 2, 1) := by decide +kernel
theorem dX9_run_2 : decode cX9_run 2 = .ok (.iconst 0, 1) := by decide +kernel
theorem dX9_run_3 : decode cX9_run 3 = .ok (.istore_n 3, 1) := by decide +kernel
theorem dX9_run_4 : decode cX9_run 4 = .ok (.iload_n 3, 1) := by decide +kernel
theorem dX9_run_5 : decode cX9_run 5 = .ok (.aload_n 0, 1) := by decide +kernel
theorem dX9_run_6 : decode cX9_run 6 = .ok (.getfield 9, 3) := by decide +kernel
theorem dX9_run_9 : decode cX9_run 9 = .ok (.if_icmp .ge 20, 3) := by decide +kernel
theorem dX9_run_12 : decode cX9_run 12 = .ok (.iload_n 2, 1) := by decide +kernel
theorem dX9_run_13 : decode cX9_run 13 = .ok (.iconst 1, 1) := by decide +kernel
theorem dX9_run_14 : decode cX9_run 14 = .ok (.iload_n 1, 1) := by decide +kernel
theorem dX9_run_15 : decode cX9_run 15 = .ok (.iload_n 3, 1) := by decide +kernel
theorem dX9_run_16 : decode cX9_run 16 = .ok (.iadd, 1) := by decide +kernel
theorem dX9_run_17 : decode cX9_run 17 = .ok (.bipush 8, 2) := by decide +kernel
theorem dX9_run_19 : decode cX9_run 19 = .ok (.irem, 1) := by decide +kernel
theorem dX9_run_20 : decode cX9_run 20 = .ok (.ishl, 1) := by decide +kernel
theorem dX9_run_21 : decode cX9_run 21 = .ok (.ior, 1) := by decide +kernel
theorem dX9_run_22 : decode cX9_run 22 = .ok (.istore_n 2, 1) := by decide +kernel
theorem dX9_run_23 : decode cX9_run 23 = .ok (.iinc 3 1, 3) := by decide +kernel
theorem dX9_run_26 : decode cX9_run 26 = .ok (.goto (-22), 3) := by decide +kernel
theorem dX9_run_29 : decode cX9_run 29 = .ok (.iload_n 2, 1) := by decide +kernel
theorem dX9_run_30 : decode cX9_run 30 = .ok (.ireturn, 1) := by decide +kernel
theorem dX9_make_0 : decode cX9_make 0 = .ok (.iload_n 1, 1) := by decide +kernel
theorem dX9_make_1 : decode cX9_make 1 = .ok (.iconst 0, 1) := by decide +kernel
theorem dX9_make_2 : decode cX9_make 2 = .ok (.iconst 5, 1) := by decide +kernel
theorem dX9_make_3 : decode cX9_make 3 = .ok (.invokestatic 91, 3) := by decide +kernel
theorem dX9_make_6 : decode cX9_make 6 = .ok (.ifCond .ne 5, 3) := by decide +kernel
theorem dX9_make_9 : decode cX9_make 9 = .ok (.iconst (-1), 1) := by decide +kernel
theorem dX9_make_10 : decode cX9_make 10 = .ok (.ireturn, 1) := by decide +kernel
theorem dX9_make_11 : decode cX9_make 11 = .ok (.aload_n 0, 1) := by decide +kernel
theorem dX9_make_12 : decode cX9_make 12 = .ok (.invokevirtual 130, 3) := by decide +kernel
theorem dX9_make_15 : decode cX9_make 15 = .ok (.iconst 0, 1) := by decide +kernel
theorem dX9_make_16 : decode cX9_make 16 = .ok (.istore_n 2, 1) := by decide +kernel
theorem dX9_make_17 : decode cX9_make 17 = .ok (.iload_n 2, 1) := by decide +kernel
theorem dX9_make_18 : decode cX9_make 18 = .ok (.sipush 256, 3) := by decide +kernel
theorem dX9_make_21 : decode cX9_make 21 = .ok (.if_icmp .ge 61, 3) := by decide +kernel
theorem dX9_make_24 : decode cX9_make 24 = .ok (.aload_n 0, 1) := by decide +kernel
theorem dX9_make_25 : decode cX9_make 25 = .ok (.getfield 15, 3) := by decide +kernel
theorem dX9_make_28 : decode cX9_make 28 = .ok (.iload_n 2, 1) := by decide +kernel
theorem dX9_make_29 : decode cX9_make 29 = .ok (.iload_n 1, 1) := by decide +kernel
theorem dX9_make_30 : decode cX9_make 30 = .ok (.iconst 2, 1) := by decide +kernel
theorem dX9_make_31 : decode cX9_make 31 = .ok (.if_icmp .ne 26, 3) := by decide +kernel
theorem dX9_make_34 : decode cX9_make 34 = .ok (.iload_n 2, 1) := by decide +kernel
theorem dX9_make_35 : decode cX9_make 35 = .ok (.invokestatic 110, 3) := by decide +kernel
theorem dX9_make_38 : decode cX9_make 38 = .ok (.aload_n 0, 1) := by decide +kernel
theorem dX9_make_39 : decode cX9_make 39 = .ok (.getfield 9, 3) := by decide +kernel
theorem dX9_make_42 : decode cX9_make 42 = .ok (.if_icmp .ne 15, 3) := by decide +kernel
theorem dX9_make_45 : decode cX9_make 45 = .ok (.iload_n 2, 1) := by decide +kernel
theorem dX9_make_46 : decode cX9_make 46 = .ok (.iconst 1, 1) := by decide +kernel
theorem dX9_make_47 : decode cX9_make 47 = .ok (.aload_n 0, 1) := by decide +kernel
theorem dX9_make_48 : decode cX9_make 48 = .ok (.getfield 9, 3) := by decide +kernel
theorem dX9_make_51 : decode cX9_make 51 = .ok (.iconst 1, 1) := by decide +kernel
theorem dX9_make_52 : decode cX9_make 52 = .ok (.iadd, 1) := by decide +kernel
theorem dX9_make_53 : decode cX9_make 53 = .ok (.ishl, 1) := by decide +kernel
theorem dX9_make_54 : decode cX9_make 54 = .ok (.if_icmp .lt 16, 3) := by decide +kernel
theorem dX9_make_57 : decode cX9_make 57 = .ok (.iload_n 1, 1) := by decide +kernel
theorem dX9_make_58 : decode cX9_make 58 = .ok (.iconst 5, 1) := by decide +kernel
theorem dX9_make_59 : decode cX9_make 59 = .ok (.if_icmp .ne 15, 3) := by decide +kernel
theorem dX9_make_62 : decode cX9_make 62 = .ok (.aload_n 0, 1) := by decide +kernel
theorem dX9_make_63 : decode cX9_make 63 = .ok (.iload_n 2, 1) := by decide +kernel
theorem dX9_make_64 : decode cX9_make 64 = .ok (.invokevirtual 133, 3) := by decide +kernel
theorem dX9_make_67 : decode cX9_make 67 = .ok (.ifCond .eq 7, 3) := by decide +kernel
theorem dX9_make_70 : decode cX9_make 70 = .ok (.iconst 1, 1) := by decide +kernel
theorem dX9_make_71 : decode cX9_make 71 = .ok (.goto 4, 3) := by decide +kernel
theorem dX9_make_74 : decode cX9_make 74 = .ok (.iconst 0, 1) := by decide +kernel
theorem dX9_make_75 : decode cX9_make 75 = .ok (.bastore, 1) := by decide +kernel
theorem dX9_make_76 : decode cX9_make 76 = .ok (.iinc 2 1, 3) := by decide +kernel
theorem dX9_make_79 : decode cX9_make 79 = .ok (.goto (-62), 3) := by decide +kernel
theorem dX9_make_82 : decode cX9_make 82 = .ok (.iload_n 1, 1) := by decide +kernel
theorem dX9_make_83 : decode cX9_make 83 = .ok (.iconst 1, 1) := by decide +kernel
theorem dX9_make_84 : decode cX9_make 84 = .ok (.if_icmp .ne 14, 3) := by decide +kernel
theorem dX9_make_87 : decode cX9_make 87 = .ok (.aload_n 0, 1) := by decide +kernel
theorem dX9_make_88 : decode cX9_make 88 = .ok (.getfield 15, 3) := by decide +kernel
theorem dX9_make_91 : decode cX9_make 91 = .ok (.aload_n 0, 1) := by decide +kernel
theorem dX9_make_92 : decode cX9_make 92 = .ok (.iconst 0, 1) := by decide +kernel
theorem dX9_make_93 : decode cX9_make 93 = .ok (.invokevirtual 137, 3) := by decide +kernel
theorem dX9_make_96 : decode cX9_make 96 = .ok (.iconst 1, 1) := by decide +kernel
theorem dX9_make_97 : decode cX9_make 97 = .ok (.bastore, 1) := by decide +kernel
theorem dX9_make_98 : decode cX9_make 98 = .ok (.iconst 0, 1) := by decide +kernel
theorem dX9_make_99 : decode cX9_make 99 = .ok (.istore_n 2, 1) := by decide +kernel
theorem dX9_make_100 : decode cX9_make 100 = .ok (.iload_n 1, 1) := by decide +kernel
theorem dX9_make_101 : decode cX9_make 101 = .ok (.iconst 3, 1) := by decide +kernel
theorem dX9_make_102 : decode cX9_make 102 = .ok (.if_icmp .ne 14, 3) := by decide +kernel
theorem dX9_make_105 : decode cX9_make 105 = .ok (.iload_n 2, 1) := by decide +kernel
theorem dX9_make_106 : decode cX9_make 106 = .ok (.bipush 8, 2) := by decide +kernel
theorem dX9_make_108 : decode cX9_make 108 = .ok (.aload_n 0, 1) := by decide +kernel
theorem dX9_make_109 : decode cX9_make 109 = .ok (.getfield 9, 3) := by decide +kernel
theorem dX9_make_112 : decode cX9_make 112 = .ok (.isub, 1) := by decide +kernel
theorem dX9_make_113 : decode cX9_make 113 = .ok (.if_icmp .le 14, 3) := by decide +kernel
theorem dX9_make_116 : decode cX9_make 116 = .ok (.iload_n 1, 1) := by decide +kernel
theorem dX9_make_117 : decode cX9_make 117 = .ok (.iconst 4, 1) := by decide +kernel
theorem dX9_make_118 : decode cX9_make 118 = .ok (.if_icmp .ne 26, 3) := by decide +kernel
theorem dX9_make_121 : decode cX9_make 121 = .ok (.iload_n 2, 1) := by decide +kernel
theorem dX9_make_122 : decode cX9_make 122 = .ok (.bipush 8, 2) := by decide +kernel
theorem dX9_make_124 : decode cX9_make 124 = .ok (.if_icmp .ge 20, 3) := by decide +kernel
theorem dX9_make_127 : decode cX9_make 127 = .ok (.aload_n 0, 1) := by decide +kernel
theorem dX9_make_128 : decode cX9_make 128 = .ok (.getfield 15, 3) := by decide +kernel
theorem dX9_make_131 : decode cX9_make 131 = .ok (.aload_n 0, 1) := by decide +kernel
theorem dX9_make_132 : decode cX9_make 132 = .ok (.iload_n 2, 1) := by decide +kernel
theorem dX9_make_133 : decode cX9_make 133 = .ok (.invokevirtual 137, 3) := by decide +kernel
theorem dX9_make_136 : decode cX9_make 136 = .ok (.iconst 1, 1) := by decide +kernel
theorem dX9_make_137 : decode cX9_make 137 = .ok (.bastore, 1) := by decide +kernel
theorem dX9_make_138 : decode cX9_make 138 = .ok (.iinc 2 1, 3) := by decide +kernel
theorem dX9_make_141 : decode cX9_make 141 = .ok (.goto (-41), 3) := by decide +kernel
theorem dX9_make_144 : decode cX9_make 144 = .ok (.aload_n 0, 1) := by decide +kernel
theorem dX9_make_145 : decode cX9_make 145 = .ok (.getfield 15, 3) := by decide +kernel
theorem dX9_make_148 : decode cX9_make 148 = .ok (.invokestatic 140, 3) := by decide +kernel
theorem dX9_make_151 : decode cX9_make 151 = .ok (.ireturn, 1) := by decide +kernel
theorem dX9_isBody_0 : decode cX9_isBody 0 = .ok (.iload_n 1, 1) := by decide +kernel
theorem dX9_isBody_1 : decode cX9_isBody 1 = .ok (.invokestatic 144, 3) := by decide +kernel
theorem dX9_isBody_4 : decode cX9_isBody 4 = .ok (.ifCond .eq 18, 3) := by decide +kernel
theorem dX9_isBody_7 : decode cX9_isBody 7 = .ok (.iload_n 1, 1) := by decide +kernel
theorem dX9_isBody_8 : decode cX9_isBody 8 = .ok (.invokestatic 110, 3) := by decide +kernel
theorem dX9_isBody_11 : decode cX9_isBody 11 = .ok (.aload_n 0, 1) := by decide +kernel
theorem dX9_isBody_12 : decode cX9_isBody 12 = .ok (.getfield 9, 3) := by decide +kernel
theorem dX9_isBody_15 : decode cX9_isBody 15 = .ok (.if_icmp .ne 7, 3) := by decide +kernel
theorem dX9_isBody_18 : decode cX9_isBody 18 = .ok (.iconst 1, 1) := by decide +kernel
theorem dX9_isBody_19 : decode cX9_isBody 19 = .ok (.goto 4, 3) := by decide +kernel
theorem dX9_isBody_22 : decode cX9_isBody 22 = .ok (.iconst 0, 1) := by decide +kernel
theorem dX9_isBody_23 : decode cX9_isBody 23 = .ok (.ireturn, 1) := by decide +kernel
theorem dX9_body_0 : decode cX9_body 0 = .ok (.aload_n 0, 1) := by decide +kernel
theorem dX9_body_1 : decode cX9_body 1 = .ok (.iload_n 1, 1) := by decide +kernel
theorem dX9_body_2 : decode cX9_body 2 = .ok (.invokevirtual 147, 3) := by decide +kernel
theorem dX9_body_5 : decode cX9_body 5 = .ok (.ifCond .ne 5, 3) := by decide +kernel
theorem dX9_body_8 : decode cX9_body 8 = .ok (.iconst (-1), 1) := by decide +kernel
theorem dX9_body_9 : decode cX9_body 9 = .ok (.ireturn, 1) := by decide +kernel
theorem dX9_body_10 : decode cX9_body 10 = .ok (.aload_n 0, 1) := by decide +kernel
theorem dX9_body_11 : decode cX9_body 11 = .ok (.invokevirtual 130, 3) := by decide +kernel
theorem dX9_body_14 : decode cX9_body 14 = .ok (.aload_n 0, 1) := by decide +kernel
theorem dX9_body_15 : decode cX9_body 15 = .ok (.getfield 15, 3) := by decide +kernel
theorem dX9_body_18 : decode cX9_body 18 = .ok (.iload_n 1, 1) := by decide +kernel
theorem dX9_body_19 : decode cX9_body 19 = .ok (.aload_n 0, 1) := by decide +kernel
theorem dX9_body_20 : decode cX9_body 20 = .ok (.getfield 15, 3) := by decide +kernel
theorem dX9_body_23 : decode cX9_body 23 = .ok (.iload_n 1, 1) := by decide +kernel
theorem dX9_body_24 : decode cX9_body 24 = .ok (.baload, 1) := by decide +kernel
theorem dX9_body_25 : decode cX9_body 25 = .ok (.ifCond .ne 7, 3) := by decide +kernel
theorem dX9_body_28 : decode cX9_body 28 = .ok (.iconst 1, 1) := by decide +kernel
theorem dX9_body_29 : decode cX9_body 29 = .ok (.goto 4, 3) := by decide +kernel
theorem dX9_body_32 : decode cX9_body 32 = .ok (.iconst 0, 1) := by decide +kernel
theorem dX9_body_33 : decode cX9_body 33 = .ok (.bastore, 1) := by decide +kernel
theorem dX9_body_34 : decode cX9_body 34 = .ok (.aload_n 0, 1) := by decide +kernel
theorem dX9_body_35 : decode cX9_body 35 = .ok (.getfield 15, 3) := by decide +kernel
theorem dX9_body_38 : decode cX9_body 38 = .ok (.invokestatic 140, 3) := by decide +kernel
theorem dX9_body_41 : decode cX9_body 41 = .ok (.ireturn, 1) := by decide +kernel
theorem dX9_bodyOf_0 : decode cX9_bodyOf 0 = .ok (.iload_n 1, 1) := by decide +kernel
theorem dX9_bodyOf_1 : decode cX9_bodyOf 1 = .ok (.ifCond .ge 5, 3) := by decide +kernel
theorem dX9_bodyOf_4 : decode cX9_bodyOf 4 = .ok (.iconst (-1), 1) := by decide +kernel
theorem dX9_bodyOf_5 : decode cX9_bodyOf 5 = .ok (.ireturn, 1) := by decide +kernel
theorem dX9_bodyOf_6 : decode cX9_bodyOf 6 = .ok (.iload_n 1, 1) := by decide +kernel
theorem dX9_bodyOf_7 : decode cX9_bodyOf 7 = .ok (.istore_n 2, 1) := by decide +kernel
theorem dX9_bodyOf_8 : decode cX9_bodyOf 8 = .ok (.iconst 1, 1) := by decide +kernel
theorem dX9_bodyOf_9 : decode cX9_bodyOf 9 = .ok (.istore_n 3, 1) := by decide +kernel
theorem dX9_bodyOf_10 : decode cX9_bodyOf 10 = .ok (.iload_n 3, 1) := by decide +kernel
theorem dX9_bodyOf_11 : decode cX9_bodyOf 11 = .ok (.sipush 256, 3) := by decide +kernel
theorem dX9_bodyOf_14 : decode cX9_bodyOf 14 = .ok (.if_icmp .ge 30, 3) := by decide +kernel
theorem dX9_bodyOf_17 : decode cX9_bodyOf 17 = .ok (.aload_n 0, 1) := by decide +kernel
theorem dX9_bodyOf_18 : decode cX9_bodyOf 18 = .ok (.getfield 15, 3) := by decide +kernel
theorem dX9_bodyOf_21 : decode cX9_bodyOf 21 = .ok (.iload_n 3, 1) := by decide +kernel
theorem dX9_bodyOf_22 : decode cX9_bodyOf 22 = .ok (.baload, 1) := by decide +kernel
theorem dX9_bodyOf_23 : decode cX9_bodyOf 23 = .ok (.ifCond .ne 6, 3) := by decide +kernel
theorem dX9_bodyOf_26 : decode cX9_bodyOf 26 = .ok (.goto 12, 3) := by decide +kernel
theorem dX9_bodyOf_29 : decode cX9_bodyOf 29 = .ok (.iload_n 2, 1) := by decide +kernel
theorem dX9_bodyOf_30 : decode cX9_bodyOf 30 = .ok (.ifCond .ne 5, 3) := by decide +kernel
theorem dX9_bodyOf_33 : decode cX9_bodyOf 33 = .ok (.iload_n 3, 1) := by decide +kernel
theorem dX9_bodyOf_34 : decode cX9_bodyOf 34 = .ok (.ireturn, 1) := by decide +kernel
theorem dX9_bodyOf_35 : decode cX9_bodyOf 35 = .ok (.iinc 2 (-1), 3) := by decide +kernel
theorem dX9_bodyOf_38 : decode cX9_bodyOf 38 = .ok (.iinc 3 1, 3) := by decide +kernel
theorem dX9_bodyOf_41 : decode cX9_bodyOf 41 = .ok (.goto (-31), 3) := by decide +kernel
theorem dX9_bodyOf_44 : decode cX9_bodyOf 44 = .ok (.bipush (-5), 2) := by decide +kernel
theorem dX9_bodyOf_46 : decode cX9_bodyOf 46 = .ok (.ireturn, 1) := by decide +kernel
theorem dX9_heap_0 : decode cX9_heap 0 = .ok (.iload_n 1, 1) := by decide +kernel
theorem dX9_heap_1 : decode cX9_heap 1 = .ok (.iconst 0, 1) := by decide +kernel
theorem dX9_heap_2 : decode cX9_heap 2 = .ok (.bipush 7, 2) := by decide +kernel
theorem dX9_heap_4 : decode cX9_heap 4 = .ok (.invokestatic 91, 3) := by decide +kernel
theorem dX9_heap_7 : decode cX9_heap 7 = .ok (.ifCond .ne 5, 3) := by decide +kernel
theorem dX9_heap_10 : decode cX9_heap 10 = .ok (.iconst (-1), 1) := by decide +kernel
theorem dX9_heap_11 : decode cX9_heap 11 = .ok (.ireturn, 1) := by decide +kernel
theorem dX9_heap_12 : decode cX9_heap 12 = .ok (.aload_n 0, 1) := by decide +kernel
theorem dX9_heap_13 : decode cX9_heap 13 = .ok (.aload_n 0, 1) := by decide +kernel
theorem dX9_heap_14 : decode cX9_heap 14 = .ok (.getfield 15, 3) := by decide +kernel
theorem dX9_heap_17 : decode cX9_heap 17 = .ok (.invokevirtual 150, 3) := by decide +kernel
theorem dX9_heap_20 : decode cX9_heap 20 = .ok (.iload_n 1, 1) := by decide +kernel
theorem dX9_heap_21 : decode cX9_heap 21 = .ok (.tableswitch 88 0 6 #[43, 48, 56, 61, 70, 75, 83], 43) := by decide +kernel
theorem dX9_heap_64 : decode cX9_heap 64 = .ok (.aload_n 0, 1) := by decide +kernel
theorem dX9_heap_65 : decode cX9_heap 65 = .ok (.getfield 9, 3) := by decide +kernel
theorem dX9_heap_68 : decode cX9_heap 68 = .ok (.ireturn, 1) := by decide +kernel
theorem dX9_heap_69 : decode cX9_heap 69 = .ok (.aload_n 0, 1) := by decide +kernel
theorem dX9_heap_70 : decode cX9_heap 70 = .ok (.getfield 15, 3) := by decide +kernel
theorem dX9_heap_73 : decode cX9_heap 73 = .ok (.invokestatic 140, 3) := by decide +kernel
theorem dX9_heap_76 : decode cX9_heap 76 = .ok (.ireturn, 1) := by decide +kernel
theorem dX9_heap_77 : decode cX9_heap 77 = .ok (.aload_n 0, 1) := by decide +kernel
theorem dX9_heap_78 : decode cX9_heap 78 = .ok (.getfield 107, 3) := by decide +kernel
theorem dX9_heap_81 : decode cX9_heap 81 = .ok (.ireturn, 1) := by decide +kernel
theorem dX9_heap_82 : decode cX9_heap 82 = .ok (.aload_n 0, 1) := by decide +kernel
theorem dX9_heap_83 : decode cX9_heap 83 = .ok (.aload_n 0, 1) := by decide +kernel
theorem dX9_heap_84 : decode cX9_heap 84 = .ok (.getfield 9, 3) := by decide +kernel
theorem dX9_heap_87 : decode cX9_heap 87 = .ok (.invokevirtual 154, 3) := by decide +kernel
theorem dX9_heap_90 : decode cX9_heap 90 = .ok (.ireturn, 1) := by decide +kernel
theorem dX9_heap_91 : decode cX9_heap 91 = .ok (.aload_n 0, 1) := by decide +kernel
theorem dX9_heap_92 : decode cX9_heap 92 = .ok (.invokevirtual 157, 3) := by decide +kernel
theorem dX9_heap_95 : decode cX9_heap 95 = .ok (.ireturn, 1) := by decide +kernel
theorem dX9_heap_96 : decode cX9_heap 96 = .ok (.bipush 100, 2) := by decide +kernel
theorem dX9_heap_98 : decode cX9_heap 98 = .ok (.aload_n 0, 1) := by decide +kernel
theorem dX9_heap_99 : decode cX9_heap 99 = .ok (.invokevirtual 161, 3) := by decide +kernel
theorem dX9_heap_102 : decode cX9_heap 102 = .ok (.iadd, 1) := by decide +kernel
theorem dX9_heap_103 : decode cX9_heap 103 = .ok (.ireturn, 1) := by decide +kernel
theorem dX9_heap_104 : decode cX9_heap 104 = .ok (.aload_n 0, 1) := by decide +kernel
theorem dX9_heap_105 : decode cX9_heap 105 = .ok (.invokevirtual 164, 3) := by decide +kernel
theorem dX9_heap_108 : decode cX9_heap 108 = .ok (.ireturn, 1) := by decide +kernel
theorem dX9_heap_109 : decode cX9_heap 109 = .ok (.aload_n 0, 1) := by decide +kernel
theorem dX9_heap_110 : decode cX9_heap 110 = .ok (.invokevirtual 167, 3) := by decide +kernel
theorem dX9_heap_113 : decode cX9_heap 113 = .ok (.ifCond .eq 7, 3) := by decide +kernel
theorem dX9_heap_116 : decode cX9_heap 116 = .ok (.iconst 1, 1) := by decide +kernel
theorem dX9_heap_117 : decode cX9_heap 117 = .ok (.goto 4, 3) := by decide +kernel
theorem dX9_heap_120 : decode cX9_heap 120 = .ok (.iconst 0, 1) := by decide +kernel
theorem dX9_heap_121 : decode cX9_heap 121 = .ok (.ireturn, 1) := by decide +kernel
theorem dX9_areBeside_0 : decode cX9_areBeside 0 = .ok (.iload_n 1, 1) := by decide +kernel
theorem dX9_areBeside_1 : decode cX9_areBeside 1 = .ok (.iload_n 2, 1) := by decide +kernel
theorem dX9_areBeside_2 : decode cX9_areBeside 2 = .ok (.iand, 1) := by decide +kernel
theorem dX9_areBeside_3 : decode cX9_areBeside 3 = .ok (.invokestatic 110, 3) := by decide +kernel
theorem dX9_areBeside_6 : decode cX9_areBeside 6 = .ok (.aload_n 0, 1) := by decide +kernel
theorem dX9_areBeside_7 : decode cX9_areBeside 7 = .ok (.getfield 9, 3) := by decide +kernel
theorem dX9_areBeside_10 : decode cX9_areBeside 10 = .ok (.iconst 1, 1) := by decide +kernel
theorem dX9_areBeside_11 : decode cX9_areBeside 11 = .ok (.isub, 1) := by decide +kernel
theorem dX9_areBeside_12 : decode cX9_areBeside 12 = .ok (.if_icmp .ne 7, 3) := by decide +kernel
theorem dX9_areBeside_15 : decode cX9_areBeside 15 = .ok (.iconst 1, 1) := by decide +kernel
theorem dX9_areBeside_16 : decode cX9_areBeside 16 = .ok (.goto 4, 3) := by decide +kernel
theorem dX9_areBeside_19 : decode cX9_areBeside 19 = .ok (.iconst 0, 1) := by decide +kernel
theorem dX9_areBeside_20 : decode cX9_areBeside 20 = .ok (.ireturn, 1) := by decide +kernel
theorem dX9_spreads_0 : decode cX9_spreads 0 = .ok (.iconst 1, 1) := by decide +kernel
theorem dX9_spreads_1 : decode cX9_spreads 1 = .ok (.istore_n 2, 1) := by decide +kernel
theorem dX9_spreads_2 : decode cX9_spreads 2 = .ok (.aload_n 0, 1) := by decide +kernel
theorem dX9_spreads_3 : decode cX9_spreads 3 = .ok (.getfield 34, 3) := by decide +kernel
theorem dX9_spreads_6 : decode cX9_spreads 6 = .ok (.iconst 0, 1) := by decide +kernel
theorem dX9_spreads_7 : decode cX9_spreads 7 = .ok (.iload_n 1, 1) := by decide +kernel
theorem dX9_spreads_8 : decode cX9_spreads 8 = .ok (.iastore, 1) := by decide +kernel
theorem dX9_spreads_9 : decode cX9_spreads 9 = .ok (.aload_n 0, 1) := by decide +kernel
theorem dX9_spreads_10 : decode cX9_spreads 10 = .ok (.getfield 31, 3) := by decide +kernel
theorem dX9_spreads_13 : decode cX9_spreads 13 = .ok (.iload_n 1, 1) := by decide +kernel
theorem dX9_spreads_14 : decode cX9_spreads 14 = .ok (.iconst 0, 1) := by decide +kernel
theorem dX9_spreads_15 : decode cX9_spreads 15 = .ok (.iastore, 1) := by decide +kernel
theorem dX9_spreads_16 : decode cX9_spreads 16 = .ok (.iconst 0, 1) := by decide +kernel
theorem dX9_spreads_17 : decode cX9_spreads 17 = .ok (.istore_n 3, 1) := by decide +kernel
theorem dX9_spreads_18 : decode cX9_spreads 18 = .ok (.iload_n 3, 1) := by decide +kernel
theorem dX9_spreads_19 : decode cX9_spreads 19 = .ok (.iload_n 2, 1) := by decide +kernel
theorem dX9_spreads_20 : decode cX9_spreads 20 = .ok (.if_icmp .ge 95, 3) := by decide +kernel
theorem dX9_spreads_23 : decode cX9_spreads 23 = .ok (.iconst 1, 1) := by decide +kernel
theorem dX9_spreads_24 : decode cX9_spreads 24 = .ok (.istore 4, 2) := by decide +kernel
theorem dX9_spreads_26 : decode cX9_spreads 26 = .ok (.iload 4, 2) := by decide +kernel
theorem dX9_spreads_28 : decode cX9_spreads 28 = .ok (.sipush 256, 3) := by decide +kernel
theorem dX9_spreads_31 : decode cX9_spreads 31 = .ok (.if_icmp .ge 78, 3) := by decide +kernel
theorem dX9_spreads_34 : decode cX9_spreads 34 = .ok (.aload_n 0, 1) := by decide +kernel
theorem dX9_spreads_35 : decode cX9_spreads 35 = .ok (.getfield 15, 3) := by decide +kernel
theorem dX9_spreads_38 : decode cX9_spreads 38 = .ok (.iload 4, 2) := by decide +kernel
theorem dX9_spreads_40 : decode cX9_spreads 40 = .ok (.baload, 1) := by decide +kernel
theorem dX9_spreads_41 : decode cX9_spreads 41 = .ok (.ifCond .eq 62, 3) := by decide +kernel
theorem dX9_spreads_44 : decode cX9_spreads 44 = .ok (.aload_n 0, 1) := by decide +kernel
theorem dX9_spreads_45 : decode cX9_spreads 45 = .ok (.getfield 31, 3) := by decide +kernel
theorem dX9_spreads_48 : decode cX9_spreads 48 = .ok (.iload 4, 2) := by decide +kernel
theorem dX9_spreads_50 : decode cX9_spreads 50 = .ok (.iaload, 1) := by decide +kernel
theorem dX9_spreads_51 : decode cX9_spreads 51 = .ok (.ifCond .ge 52, 3) := by decide +kernel
theorem dX9_spreads_54 : decode cX9_spreads 54 = .ok (.aload_n 0, 1) := by decide +kernel
theorem dX9_spreads_55 : decode cX9_spreads 55 = .ok (.aload_n 0, 1) := by decide +kernel
theorem dX9_spreads_56 : decode cX9_spreads 56 = .ok (.getfield 34, 3) := by decide +kernel
theorem dX9_spreads_59 : decode cX9_spreads 59 = .ok (.iload_n 3, 1) := by decide +kernel
theorem dX9_spreads_60 : decode cX9_spreads 60 = .ok (.iaload, 1) := by decide +kernel
theorem dX9_spreads_61 : decode cX9_spreads 61 = .ok (.iload 4, 2) := by decide +kernel
theorem dX9_spreads_63 : decode cX9_spreads 63 = .ok (.invokevirtual 171, 3) := by decide +kernel
theorem dX9_spreads_66 : decode cX9_spreads 66 = .ok (.ifCond .ne 6, 3) := by decide +kernel
theorem dX9_spreads_69 : decode cX9_spreads 69 = .ok (.goto 34, 3) := by decide +kernel
theorem dX9_spreads_72 : decode cX9_spreads 72 = .ok (.aload_n 0, 1) := by decide +kernel
theorem dX9_spreads_73 : decode cX9_spreads 73 = .ok (.getfield 31, 3) := by decide +kernel
theorem dX9_spreads_76 : decode cX9_spreads 76 = .ok (.iload 4, 2) := by decide +kernel
theorem dX9_spreads_78 : decode cX9_spreads 78 = .ok (.aload_n 0, 1) := by decide +kernel
theorem dX9_spreads_79 : decode cX9_spreads 79 = .ok (.getfield 31, 3) := by decide +kernel
theorem dX9_spreads_82 : decode cX9_spreads 82 = .ok (.aload_n 0, 1) := by decide +kernel
theorem dX9_spreads_83 : decode cX9_spreads 83 = .ok (.getfield 34, 3) := by decide +kernel
theorem dX9_spreads_86 : decode cX9_spreads 86 = .ok (.iload_n 3, 1) := by decide +kernel
theorem dX9_spreads_87 : decode cX9_spreads 87 = .ok (.iaload, 1) := by decide +kernel
theorem dX9_spreads_88 : decode cX9_spreads 88 = .ok (.iaload, 1) := by decide +kernel
theorem dX9_spreads_89 : decode cX9_spreads 89 = .ok (.iconst 1, 1) := by decide +kernel
theorem dX9_spreads_90 : decode cX9_spreads 90 = .ok (.iadd, 1) := by decide +kernel
theorem dX9_spreads_91 : decode cX9_spreads 91 = .ok (.iastore, 1) := by decide +kernel
theorem dX9_spreads_92 : decode cX9_spreads 92 = .ok (.aload_n 0, 1) := by decide +kernel
theorem dX9_spreads_93 : decode cX9_spreads 93 = .ok (.getfield 34, 3) := by decide +kernel
theorem dX9_spreads_96 : decode cX9_spreads 96 = .ok (.iload_n 2, 1) := by decide +kernel
theorem dX9_spreads_97 : decode cX9_spreads 97 = .ok (.iload 4, 2) := by decide +kernel
theorem dX9_spreads_99 : decode cX9_spreads 99 = .ok (.iastore, 1) := by decide +kernel
theorem dX9_spreads_100 : decode cX9_spreads 100 = .ok (.iinc 2 1, 3) := by decide +kernel
theorem dX9_spreads_103 : decode cX9_spreads 103 = .ok (.iinc 4 1, 3) := by decide +kernel
theorem dX9_spreads_106 : decode cX9_spreads 106 = .ok (.goto (-80), 3) := by decide +kernel
theorem dX9_spreads_109 : decode cX9_spreads 109 = .ok (.iinc 3 1, 3) := by decide +kernel
theorem dX9_spreads_112 : decode cX9_spreads 112 = .ok (.goto (-94), 3) := by decide +kernel
theorem dX9_spreads_115 : decode cX9_spreads 115 = .ok (.return_, 1) := by decide +kernel
theorem dX9_parts_0 : decode cX9_parts 0 = .ok (.iconst 0, 1) := by decide +kernel
theorem dX9_parts_1 : decode cX9_parts 1 = .ok (.istore_n 1, 1) := by decide +kernel
theorem dX9_parts_2 : decode cX9_parts 2 = .ok (.iload_n 1, 1) := by decide +kernel
theorem dX9_parts_3 : decode cX9_parts 3 = .ok (.sipush 256, 3) := by decide +kernel
theorem dX9_parts_6 : decode cX9_parts 6 = .ok (.if_icmp .ge 16, 3) := by decide +kernel
theorem dX9_parts_9 : decode cX9_parts 9 = .ok (.aload_n 0, 1) := by decide +kernel
theorem dX9_parts_10 : decode cX9_parts 10 = .ok (.getfield 31, 3) := by decide +kernel
theorem dX9_parts_13 : decode cX9_parts 13 = .ok (.iload_n 1, 1) := by decide +kernel
theorem dX9_parts_14 : decode cX9_parts 14 = .ok (.iconst (-1), 1) := by decide +kernel
theorem dX9_parts_15 : decode cX9_parts 15 = .ok (.iastore, 1) := by decide +kernel
theorem dX9_parts_16 : decode cX9_parts 16 = .ok (.iinc 1 1, 3) := by decide +kernel
theorem dX9_parts_19 : decode cX9_parts 19 = .ok (.goto (-17), 3) := by decide +kernel
theorem dX9_parts_22 : decode cX9_parts 22 = .ok (.iconst 0, 1) := by decide +kernel
theorem dX9_parts_23 : decode cX9_parts 23 = .ok (.istore_n 1, 1) := by decide +kernel
theorem dX9_parts_24 : decode cX9_parts 24 = .ok (.iconst 1, 1) := by decide +kernel
theorem dX9_parts_25 : decode cX9_parts 25 = .ok (.istore_n 2, 1) := by decide +kernel
theorem dX9_parts_26 : decode cX9_parts 26 = .ok (.iload_n 2, 1) := by decide +kernel
theorem dX9_parts_27 : decode cX9_parts 27 = .ok (.sipush 256, 3) := by decide +kernel
theorem dX9_parts_30 : decode cX9_parts 30 = .ok (.if_icmp .ge 38, 3) := by decide +kernel
theorem dX9_parts_33 : decode cX9_parts 33 = .ok (.aload_n 0, 1) := by decide +kernel
theorem dX9_parts_34 : decode cX9_parts 34 = .ok (.getfield 15, 3) := by decide +kernel
theorem dX9_parts_37 : decode cX9_parts 37 = .ok (.iload_n 2, 1) := by decide +kernel
theorem dX9_parts_38 : decode cX9_parts 38 = .ok (.baload, 1) := by decide +kernel
theorem dX9_parts_39 : decode cX9_parts 39 = .ok (.ifCond .eq 23, 3) := by decide +kernel
theorem dX9_parts_42 : decode cX9_parts 42 = .ok (.aload_n 0, 1) := by decide +kernel
theorem dX9_parts_43 : decode cX9_parts 43 = .ok (.getfield 31, 3) := by decide +kernel
theorem dX9_parts_46 : decode cX9_parts 46 = .ok (.iload_n 2, 1) := by decide +kernel
theorem dX9_parts_47 : decode cX9_parts 47 = .ok (.iaload, 1) := by decide +kernel
theorem dX9_parts_48 : decode cX9_parts 48 = .ok (.ifCond .lt 6, 3) := by decide +kernel
theorem dX9_parts_51 : decode cX9_parts 51 = .ok (.goto 11, 3) := by decide +kernel
theorem dX9_parts_54 : decode cX9_parts 54 = .ok (.aload_n 0, 1) := by decide +kernel
theorem dX9_parts_55 : decode cX9_parts 55 = .ok (.iload_n 2, 1) := by decide +kernel
theorem dX9_parts_56 : decode cX9_parts 56 = .ok (.invokevirtual 174, 3) := by decide +kernel
theorem dX9_parts_59 : decode cX9_parts 59 = .ok (.iinc 1 1, 3) := by decide +kernel
theorem dX9_parts_62 : decode cX9_parts 62 = .ok (.iinc 2 1, 3) := by decide +kernel
theorem dX9_parts_65 : decode cX9_parts 65 = .ok (.goto (-39), 3) := by decide +kernel
theorem dX9_parts_68 : decode cX9_parts 68 = .ok (.iload_n 1, 1) := by decide +kernel
theorem dX9_parts_69 : decode cX9_parts 69 = .ok (.ireturn, 1) := by decide +kernel
theorem dX9_bodyAt_0 : decode cX9_bodyAt 0 = .ok (.iload_n 1, 1) := by decide +kernel
theorem dX9_bodyAt_1 : decode cX9_bodyAt 1 = .ok (.ifCond .ge 8, 3) := by decide +kernel
theorem dX9_bodyAt_4 : decode cX9_bodyAt 4 = .ok (.bipush (-5), 2) := by decide +kernel
theorem dX9_bodyAt_6 : decode cX9_bodyAt 6 = .ok (.goto 8, 3) := by decide +kernel
theorem dX9_bodyAt_9 : decode cX9_bodyAt 9 = .ok (.aload_n 0, 1) := by decide +kernel
theorem dX9_bodyAt_10 : decode cX9_bodyAt 10 = .ok (.iload_n 1, 1) := by decide +kernel
theorem dX9_bodyAt_11 : decode cX9_bodyAt 11 = .ok (.invokevirtual 178, 3) := by decide +kernel
theorem dX9_bodyAt_14 : decode cX9_bodyAt 14 = .ok (.ireturn, 1) := by decide +kernel
theorem dX9_apart_0 : decode cX9_apart 0 = .ok (.aload_n 0, 1) := by decide +kernel
theorem dX9_apart_1 : decode cX9_apart 1 = .ok (.iload_n 1, 1) := by decide +kernel
theorem dX9_apart_2 : decode cX9_apart 2 = .ok (.invokevirtual 181, 3) := by decide +kernel
theorem dX9_apart_5 : decode cX9_apart 5 = .ok (.istore_n 3, 1) := by decide +kernel
theorem dX9_apart_6 : decode cX9_apart 6 = .ok (.aload_n 0, 1) := by decide +kernel
theorem dX9_apart_7 : decode cX9_apart 7 = .ok (.iload_n 2, 1) := by decide +kernel
theorem dX9_apart_8 : decode cX9_apart 8 = .ok (.invokevirtual 181, 3) := by decide +kernel
theorem dX9_apart_11 : decode cX9_apart 11 = .ok (.istore 4, 2) := by decide +kernel
theorem dX9_apart_13 : decode cX9_apart 13 = .ok (.iload_n 3, 1) := by decide +kernel
theorem dX9_apart_14 : decode cX9_apart 14 = .ok (.ifCond .lt 8, 3) := by decide +kernel
theorem dX9_apart_17 : decode cX9_apart 17 = .ok (.iload 4, 2) := by decide +kernel
theorem dX9_apart_19 : decode cX9_apart 19 = .ok (.ifCond .ge 5, 3) := by decide +kernel
theorem dX9_apart_22 : decode cX9_apart 22 = .ok (.iconst (-1), 1) := by decide +kernel
theorem dX9_apart_23 : decode cX9_apart 23 = .ok (.ireturn, 1) := by decide +kernel
theorem dX9_apart_24 : decode cX9_apart 24 = .ok (.iconst 0, 1) := by decide +kernel
theorem dX9_apart_25 : decode cX9_apart 25 = .ok (.istore 5, 2) := by decide +kernel
theorem dX9_apart_27 : decode cX9_apart 27 = .ok (.iload 5, 2) := by decide +kernel
theorem dX9_apart_29 : decode cX9_apart 29 = .ok (.sipush 256, 3) := by decide +kernel
theorem dX9_apart_32 : decode cX9_apart 32 = .ok (.if_icmp .ge 17, 3) := by decide +kernel
theorem dX9_apart_35 : decode cX9_apart 35 = .ok (.aload_n 0, 1) := by decide +kernel
theorem dX9_apart_36 : decode cX9_apart 36 = .ok (.getfield 31, 3) := by decide +kernel
theorem dX9_apart_39 : decode cX9_apart 39 = .ok (.iload 5, 2) := by decide +kernel
theorem dX9_apart_41 : decode cX9_apart 41 = .ok (.iconst (-1), 1) := by decide +kernel
theorem dX9_apart_42 : decode cX9_apart 42 = .ok (.iastore, 1) := by decide +kernel
theorem dX9_apart_43 : decode cX9_apart 43 = .ok (.iinc 5 1, 3) := by decide +kernel
theorem dX9_apart_46 : decode cX9_apart 46 = .ok (.goto (-19), 3) := by decide +kernel
theorem dX9_apart_49 : decode cX9_apart 49 = .ok (.aload_n 0, 1) := by decide +kernel
theorem dX9_apart_50 : decode cX9_apart 50 = .ok (.iload_n 3, 1) := by decide +kernel
theorem dX9_apart_51 : decode cX9_apart 51 = .ok (.invokevirtual 174, 3) := by decide +kernel
theorem dX9_apart_54 : decode cX9_apart 54 = .ok (.aload_n 0, 1) := by decide +kernel
theorem dX9_apart_55 : decode cX9_apart 55 = .ok (.getfield 31, 3) := by decide +kernel
theorem dX9_apart_58 : decode cX9_apart 58 = .ok (.iload 4, 2) := by decide +kernel
theorem dX9_apart_60 : decode cX9_apart 60 = .ok (.iaload, 1) := by decide +kernel
theorem dX9_apart_61 : decode cX9_apart 61 = .ok (.ifCond .ge 8, 3) := by decide +kernel
theorem dX9_apart_64 : decode cX9_apart 64 = .ok (.bipush (-5), 2) := by decide +kernel
theorem dX9_apart_66 : decode cX9_apart 66 = .ok (.goto 10, 3) := by decide +kernel
theorem dX9_apart_69 : decode cX9_apart 69 = .ok (.aload_n 0, 1) := by decide +kernel
theorem dX9_apart_70 : decode cX9_apart 70 = .ok (.getfield 31, 3) := by decide +kernel
theorem dX9_apart_73 : decode cX9_apart 73 = .ok (.iload 4, 2) := by decide +kernel
theorem dX9_apart_75 : decode cX9_apart 75 = .ok (.iaload, 1) := by decide +kernel
theorem dX9_apart_76 : decode cX9_apart 76 = .ok (.ireturn, 1) := by decide +kernel
theorem dX9_below_0 : decode cX9_below 0 = .ok (.iload_n 1, 1) := by decide +kernel
theorem dX9_below_1 : decode cX9_below 1 = .ok (.iload_n 2, 1) := by decide +kernel
theorem dX9_below_2 : decode cX9_below 2 = .ok (.iconst (-1), 1) := by decide +kernel
theorem dX9_below_3 : decode cX9_below 3 = .ok (.ixor, 1) := by decide +kernel
theorem dX9_below_4 : decode cX9_below 4 = .ok (.iand, 1) := by decide +kernel
theorem dX9_below_5 : decode cX9_below 5 = .ok (.istore_n 3, 1) := by decide +kernel
theorem dX9_below_6 : decode cX9_below 6 = .ok (.iload_n 1, 1) := by decide +kernel
theorem dX9_below_7 : decode cX9_below 7 = .ok (.iload_n 3, 1) := by decide +kernel
theorem dX9_below_8 : decode cX9_below 8 = .ok (.iconst 1, 1) := by decide +kernel
theorem dX9_below_9 : decode cX9_below 9 = .ok (.isub, 1) := by decide +kernel
theorem dX9_below_10 : decode cX9_below 10 = .ok (.iand, 1) := by decide +kernel
theorem dX9_below_11 : decode cX9_below 11 = .ok (.invokestatic 110, 3) := by decide +kernel
theorem dX9_below_14 : decode cX9_below 14 = .ok (.ireturn, 1) := by decide +kernel
theorem dX9_areSigned_0 : decode cX9_areSigned 0 = .ok (.aload_n 0, 1) := by decide +kernel
theorem dX9_areSigned_1 : decode cX9_areSigned 1 = .ok (.iload_n 1, 1) := by decide +kernel
theorem dX9_areSigned_2 : decode cX9_areSigned 2 = .ok (.iload_n 2, 1) := by decide +kernel
theorem dX9_areSigned_3 : decode cX9_areSigned 3 = .ok (.invokevirtual 184, 3) := by decide +kernel
theorem dX9_areSigned_6 : decode cX9_areSigned 6 = .ok (.aload_n 0, 1) := by decide +kernel
theorem dX9_areSigned_7 : decode cX9_areSigned 7 = .ok (.iload_n 2, 1) := by decide +kernel
theorem dX9_areSigned_8 : decode cX9_areSigned 8 = .ok (.iload_n 1, 1) := by decide +kernel
theorem dX9_areSigned_9 : decode cX9_areSigned 9 = .ok (.invokevirtual 184, 3) := by decide +kernel
theorem dX9_areSigned_12 : decode cX9_areSigned 12 = .ok (.iadd, 1) := by decide +kernel
theorem dX9_areSigned_13 : decode cX9_areSigned 13 = .ok (.iconst 2, 1) := by decide +kernel
theorem dX9_areSigned_14 : decode cX9_areSigned 14 = .ok (.irem, 1) := by decide +kernel
theorem dX9_areSigned_15 : decode cX9_areSigned 15 = .ok (.iconst 1, 1) := by decide +kernel
theorem dX9_areSigned_16 : decode cX9_areSigned 16 = .ok (.if_icmp .ne 7, 3) := by decide +kernel
theorem dX9_areSigned_19 : decode cX9_areSigned 19 = .ok (.iconst 1, 1) := by decide +kernel
theorem dX9_areSigned_20 : decode cX9_areSigned 20 = .ok (.goto 4, 3) := by decide +kernel
theorem dX9_areSigned_23 : decode cX9_areSigned 23 = .ok (.iconst 0, 1) := by decide +kernel
theorem dX9_areSigned_24 : decode cX9_areSigned 24 = .ok (.ireturn, 1) := by decide +kernel
theorem dX9_isTwoSided_0 : decode cX9_isTwoSided 0 = .ok (.iconst 0, 1) := by decide +kernel
theorem dX9_isTwoSided_1 : decode cX9_isTwoSided 1 = .ok (.istore_n 1, 1) := by decide +kernel
theorem dX9_isTwoSided_2 : decode cX9_isTwoSided 2 = .ok (.iload_n 1, 1) := by decide +kernel
theorem dX9_isTwoSided_3 : decode cX9_isTwoSided 3 = .ok (.sipush 256, 3) := by decide +kernel
theorem dX9_isTwoSided_6 : decode cX9_isTwoSided 6 = .ok (.if_icmp .ge 16, 3) := by decide +kernel
theorem dX9_isTwoSided_9 : decode cX9_isTwoSided 9 = .ok (.aload_n 0, 1) := by decide +kernel
theorem dX9_isTwoSided_10 : decode cX9_isTwoSided 10 = .ok (.getfield 31, 3) := by decide +kernel
theorem dX9_isTwoSided_13 : decode cX9_isTwoSided 13 = .ok (.iload_n 1, 1) := by decide +kernel
theorem dX9_isTwoSided_14 : decode cX9_isTwoSided 14 = .ok (.iconst (-1), 1) := by decide +kernel
theorem dX9_isTwoSided_15 : decode cX9_isTwoSided 15 = .ok (.iastore, 1) := by decide +kernel
theorem dX9_isTwoSided_16 : decode cX9_isTwoSided 16 = .ok (.iinc 1 1, 3) := by decide +kernel
theorem dX9_isTwoSided_19 : decode cX9_isTwoSided 19 = .ok (.goto (-17), 3) := by decide +kernel
theorem dX9_isTwoSided_22 : decode cX9_isTwoSided 22 = .ok (.iconst 1, 1) := by decide +kernel
theorem dX9_isTwoSided_23 : decode cX9_isTwoSided 23 = .ok (.istore_n 1, 1) := by decide +kernel
theorem dX9_isTwoSided_24 : decode cX9_isTwoSided 24 = .ok (.iload_n 1, 1) := by decide +kernel
theorem dX9_isTwoSided_25 : decode cX9_isTwoSided 25 = .ok (.sipush 256, 3) := by decide +kernel
theorem dX9_isTwoSided_28 : decode cX9_isTwoSided 28 = .ok (.if_icmp .ge 37, 3) := by decide +kernel
theorem dX9_isTwoSided_31 : decode cX9_isTwoSided 31 = .ok (.aload_n 0, 1) := by decide +kernel
theorem dX9_isTwoSided_32 : decode cX9_isTwoSided 32 = .ok (.getfield 15, 3) := by decide +kernel
theorem dX9_isTwoSided_35 : decode cX9_isTwoSided 35 = .ok (.iload_n 1, 1) := by decide +kernel
theorem dX9_isTwoSided_36 : decode cX9_isTwoSided 36 = .ok (.baload, 1) := by decide +kernel
theorem dX9_isTwoSided_37 : decode cX9_isTwoSided 37 = .ok (.ifCond .eq 22, 3) := by decide +kernel
theorem dX9_isTwoSided_40 : decode cX9_isTwoSided 40 = .ok (.aload_n 0, 1) := by decide +kernel
theorem dX9_isTwoSided_41 : decode cX9_isTwoSided 41 = .ok (.getfield 31, 3) := by decide +kernel
theorem dX9_isTwoSided_44 : decode cX9_isTwoSided 44 = .ok (.iload_n 1, 1) := by decide +kernel
theorem dX9_isTwoSided_45 : decode cX9_isTwoSided 45 = .ok (.iaload, 1) := by decide +kernel
theorem dX9_isTwoSided_46 : decode cX9_isTwoSided 46 = .ok (.ifCond .ge 13, 3) := by decide +kernel
theorem dX9_isTwoSided_49 : decode cX9_isTwoSided 49 = .ok (.aload_n 0, 1) := by decide +kernel
theorem dX9_isTwoSided_50 : decode cX9_isTwoSided 50 = .ok (.iload_n 1, 1) := by decide +kernel
theorem dX9_isTwoSided_51 : decode cX9_isTwoSided 51 = .ok (.invokevirtual 188, 3) := by decide +kernel
theorem dX9_isTwoSided_54 : decode cX9_isTwoSided 54 = .ok (.ifCond .ne 5, 3) := by decide +kernel
theorem dX9_isTwoSided_57 : decode cX9_isTwoSided 57 = .ok (.iconst 0, 1) := by decide +kernel
theorem dX9_isTwoSided_58 : decode cX9_isTwoSided 58 = .ok (.ireturn, 1) := by decide +kernel
theorem dX9_isTwoSided_59 : decode cX9_isTwoSided 59 = .ok (.iinc 1 1, 3) := by decide +kernel
theorem dX9_isTwoSided_62 : decode cX9_isTwoSided 62 = .ok (.goto (-38), 3) := by decide +kernel
theorem dX9_isTwoSided_65 : decode cX9_isTwoSided 65 = .ok (.iconst 1, 1) := by decide +kernel
theorem dX9_isTwoSided_66 : decode cX9_isTwoSided 66 = .ok (.ireturn, 1) := by decide +kernel
theorem dX9_areAgreed_0 : decode cX9_areAgreed 0 = .ok (.iconst 1, 1) := by decide +kernel
theorem dX9_areAgreed_1 : decode cX9_areAgreed 1 = .ok (.istore_n 2, 1) := by decide +kernel
theorem dX9_areAgreed_2 : decode cX9_areAgreed 2 = .ok (.aload_n 0, 1) := by decide +kernel
theorem dX9_areAgreed_3 : decode cX9_areAgreed 3 = .ok (.getfield 34, 3) := by decide +kernel
theorem dX9_areAgreed_6 : decode cX9_areAgreed 6 = .ok (.iconst 0, 1) := by decide +kernel
theorem dX9_areAgreed_7 : decode cX9_areAgreed 7 = .ok (.iload_n 1, 1) := by decide +kernel
theorem dX9_areAgreed_8 : decode cX9_areAgreed 8 = .ok (.iastore, 1) := by decide +kernel
theorem dX9_areAgreed_9 : decode cX9_areAgreed 9 = .ok (.aload_n 0, 1) := by decide +kernel
theorem dX9_areAgreed_10 : decode cX9_areAgreed 10 = .ok (.getfield 31, 3) := by decide +kernel
theorem dX9_areAgreed_13 : decode cX9_areAgreed 13 = .ok (.iload_n 1, 1) := by decide +kernel
theorem dX9_areAgreed_14 : decode cX9_areAgreed 14 = .ok (.iconst 0, 1) := by decide +kernel
theorem dX9_areAgreed_15 : decode cX9_areAgreed 15 = .ok (.iastore, 1) := by decide +kernel
theorem dX9_areAgreed_16 : decode cX9_areAgreed 16 = .ok (.iconst 0, 1) := by decide +kernel
theorem dX9_areAgreed_17 : decode cX9_areAgreed 17 = .ok (.istore_n 3, 1) := by decide +kernel
theorem dX9_areAgreed_18 : decode cX9_areAgreed 18 = .ok (.iload_n 3, 1) := by decide +kernel
theorem dX9_areAgreed_19 : decode cX9_areAgreed 19 = .ok (.iload_n 2, 1) := by decide +kernel
theorem dX9_areAgreed_20 : decode cX9_areAgreed 20 = .ok (.if_icmp .ge 155, 3) := by decide +kernel
theorem dX9_areAgreed_23 : decode cX9_areAgreed 23 = .ok (.iconst 1, 1) := by decide +kernel
theorem dX9_areAgreed_24 : decode cX9_areAgreed 24 = .ok (.istore 4, 2) := by decide +kernel
theorem dX9_areAgreed_26 : decode cX9_areAgreed 26 = .ok (.iload 4, 2) := by decide +kernel
theorem dX9_areAgreed_28 : decode cX9_areAgreed 28 = .ok (.sipush 256, 3) := by decide +kernel
theorem dX9_areAgreed_31 : decode cX9_areAgreed 31 = .ok (.if_icmp .ge 138, 3) := by decide +kernel
theorem dX9_areAgreed_34 : decode cX9_areAgreed 34 = .ok (.aload_n 0, 1) := by decide +kernel
theorem dX9_areAgreed_35 : decode cX9_areAgreed 35 = .ok (.getfield 15, 3) := by decide +kernel
theorem dX9_areAgreed_38 : decode cX9_areAgreed 38 = .ok (.iload 4, 2) := by decide +kernel
theorem dX9_areAgreed_40 : decode cX9_areAgreed 40 = .ok (.baload, 1) := by decide +kernel
theorem dX9_areAgreed_41 : decode cX9_areAgreed 41 = .ok (.ifCond .eq 122, 3) := by decide +kernel
theorem dX9_areAgreed_44 : decode cX9_areAgreed 44 = .ok (.aload_n 0, 1) := by decide +kernel
theorem dX9_areAgreed_45 : decode cX9_areAgreed 45 = .ok (.aload_n 0, 1) := by decide +kernel
theorem dX9_areAgreed_46 : decode cX9_areAgreed 46 = .ok (.getfield 34, 3) := by decide +kernel
theorem dX9_areAgreed_49 : decode cX9_areAgreed 49 = .ok (.iload_n 3, 1) := by decide +kernel
theorem dX9_areAgreed_50 : decode cX9_areAgreed 50 = .ok (.iaload, 1) := by decide +kernel
theorem dX9_areAgreed_51 : decode cX9_areAgreed 51 = .ok (.iload 4, 2) := by decide +kernel
theorem dX9_areAgreed_53 : decode cX9_areAgreed 53 = .ok (.invokevirtual 171, 3) := by decide +kernel
theorem dX9_areAgreed_56 : decode cX9_areAgreed 56 = .ok (.ifCond .ne 6, 3) := by decide +kernel
theorem dX9_areAgreed_59 : decode cX9_areAgreed 59 = .ok (.goto 104, 3) := by decide +kernel
theorem dX9_areAgreed_62 : decode cX9_areAgreed 62 = .ok (.aload_n 0, 1) := by decide +kernel
theorem dX9_areAgreed_63 : decode cX9_areAgreed 63 = .ok (.aload_n 0, 1) := by decide +kernel
theorem dX9_areAgreed_64 : decode cX9_areAgreed 64 = .ok (.getfield 34, 3) := by decide +kernel
theorem dX9_areAgreed_67 : decode cX9_areAgreed 67 = .ok (.iload_n 3, 1) := by decide +kernel
theorem dX9_areAgreed_68 : decode cX9_areAgreed 68 = .ok (.iaload, 1) := by decide +kernel
theorem dX9_areAgreed_69 : decode cX9_areAgreed 69 = .ok (.iload 4, 2) := by decide +kernel
theorem dX9_areAgreed_71 : decode cX9_areAgreed 71 = .ok (.invokevirtual 191, 3) := by decide +kernel
theorem dX9_areAgreed_74 : decode cX9_areAgreed 74 = .ok (.ifCond .eq 17, 3) := by decide +kernel
theorem dX9_areAgreed_77 : decode cX9_areAgreed 77 = .ok (.aload_n 0, 1) := by decide +kernel
theorem dX9_areAgreed_78 : decode cX9_areAgreed 78 = .ok (.getfield 31, 3) := by decide +kernel
theorem dX9_areAgreed_81 : decode cX9_areAgreed 81 = .ok (.aload_n 0, 1) := by decide +kernel
theorem dX9_areAgreed_82 : decode cX9_areAgreed 82 = .ok (.getfield 34, 3) := by decide +kernel
theorem dX9_areAgreed_85 : decode cX9_areAgreed 85 = .ok (.iload_n 3, 1) := by decide +kernel
theorem dX9_areAgreed_86 : decode cX9_areAgreed 86 = .ok (.iaload, 1) := by decide +kernel
theorem dX9_areAgreed_87 : decode cX9_areAgreed 87 = .ok (.iaload, 1) := by decide +kernel
theorem dX9_areAgreed_88 : decode cX9_areAgreed 88 = .ok (.goto 16, 3) := by decide +kernel
theorem dX9_areAgreed_91 : decode cX9_areAgreed 91 = .ok (.iconst 1, 1) := by decide +kernel
theorem dX9_areAgreed_92 : decode cX9_areAgreed 92 = .ok (.aload_n 0, 1) := by decide +kernel
theorem dX9_areAgreed_93 : decode cX9_areAgreed 93 = .ok (.getfield 31, 3) := by decide +kernel
theorem dX9_areAgreed_96 : decode cX9_areAgreed 96 = .ok (.aload_n 0, 1) := by decide +kernel
theorem dX9_areAgreed_97 : decode cX9_areAgreed 97 = .ok (.getfield 34, 3) := by decide +kernel
theorem dX9_areAgreed_100 : decode cX9_areAgreed 100 = .ok (.iload_n 3, 1) := by decide +kernel
theorem dX9_areAgreed_101 : decode cX9_areAgreed 101 = .ok (.iaload, 1) := by decide +kernel
theorem dX9_areAgreed_102 : decode cX9_areAgreed 102 = .ok (.iaload, 1) := by decide +kernel
theorem dX9_areAgreed_103 : decode cX9_areAgreed 103 = .ok (.isub, 1) := by decide +kernel
theorem dX9_areAgreed_104 : decode cX9_areAgreed 104 = .ok (.istore 5, 2) := by decide +kernel
theorem dX9_areAgreed_106 : decode cX9_areAgreed 106 = .ok (.aload_n 0, 1) := by decide +kernel
theorem dX9_areAgreed_107 : decode cX9_areAgreed 107 = .ok (.getfield 31, 3) := by decide +kernel
theorem dX9_areAgreed_110 : decode cX9_areAgreed 110 = .ok (.iload 4, 2) := by decide +kernel
theorem dX9_areAgreed_112 : decode cX9_areAgreed 112 = .ok (.iaload, 1) := by decide +kernel
theorem dX9_areAgreed_113 : decode cX9_areAgreed 113 = .ok (.ifCond .lt 17, 3) := by decide +kernel
theorem dX9_areAgreed_116 : decode cX9_areAgreed 116 = .ok (.aload_n 0, 1) := by decide +kernel
theorem dX9_areAgreed_117 : decode cX9_areAgreed 117 = .ok (.getfield 31, 3) := by decide +kernel
theorem dX9_areAgreed_120 : decode cX9_areAgreed 120 = .ok (.iload 4, 2) := by decide +kernel
theorem dX9_areAgreed_122 : decode cX9_areAgreed 122 = .ok (.iaload, 1) := by decide +kernel
theorem dX9_areAgreed_123 : decode cX9_areAgreed 123 = .ok (.iload 5, 2) := by decide +kernel
theorem dX9_areAgreed_125 : decode cX9_areAgreed 125 = .ok (.if_icmp .eq 5, 3) := by decide +kernel
theorem dX9_areAgreed_128 : decode cX9_areAgreed 128 = .ok (.iconst 0, 1) := by decide +kernel
theorem dX9_areAgreed_129 : decode cX9_areAgreed 129 = .ok (.ireturn, 1) := by decide +kernel
theorem dX9_areAgreed_130 : decode cX9_areAgreed 130 = .ok (.aload_n 0, 1) := by decide +kernel
theorem dX9_areAgreed_131 : decode cX9_areAgreed 131 = .ok (.getfield 31, 3) := by decide +kernel
theorem dX9_areAgreed_134 : decode cX9_areAgreed 134 = .ok (.iload 4, 2) := by decide +kernel
theorem dX9_areAgreed_136 : decode cX9_areAgreed 136 = .ok (.iaload, 1) := by decide +kernel
theorem dX9_areAgreed_137 : decode cX9_areAgreed 137 = .ok (.ifCond .lt 6, 3) := by decide +kernel
theorem dX9_areAgreed_140 : decode cX9_areAgreed 140 = .ok (.goto 23, 3) := by decide +kernel
theorem dX9_areAgreed_143 : decode cX9_areAgreed 143 = .ok (.aload_n 0, 1) := by decide +kernel
theorem dX9_areAgreed_144 : decode cX9_areAgreed 144 = .ok (.getfield 31, 3) := by decide +kernel
theorem dX9_areAgreed_147 : decode cX9_areAgreed 147 = .ok (.iload 4, 2) := by decide +kernel
theorem dX9_areAgreed_149 : decode cX9_areAgreed 149 = .ok (.iload 5, 2) := by decide +kernel
theorem dX9_areAgreed_151 : decode cX9_areAgreed 151 = .ok (.iastore, 1) := by decide +kernel
theorem dX9_areAgreed_152 : decode cX9_areAgreed 152 = .ok (.aload_n 0, 1) := by decide +kernel
theorem dX9_areAgreed_153 : decode cX9_areAgreed 153 = .ok (.getfield 34, 3) := by decide +kernel
theorem dX9_areAgreed_156 : decode cX9_areAgreed 156 = .ok (.iload_n 2, 1) := by decide +kernel
theorem dX9_areAgreed_157 : decode cX9_areAgreed 157 = .ok (.iload 4, 2) := by decide +kernel
theorem dX9_areAgreed_159 : decode cX9_areAgreed 159 = .ok (.iastore, 1) := by decide +kernel
theorem dX9_areAgreed_160 : decode cX9_areAgreed 160 = .ok (.iinc 2 1, 3) := by decide +kernel
theorem dX9_areAgreed_163 : decode cX9_areAgreed 163 = .ok (.iinc 4 1, 3) := by decide +kernel
theorem dX9_areAgreed_166 : decode cX9_areAgreed 166 = .ok (.goto (-140), 3) := by decide +kernel
theorem dX9_areAgreed_169 : decode cX9_areAgreed 169 = .ok (.iinc 3 1, 3) := by decide +kernel
theorem dX9_areAgreed_172 : decode cX9_areAgreed 172 = .ok (.goto (-154), 3) := by decide +kernel
theorem dX9_areAgreed_175 : decode cX9_areAgreed 175 = .ok (.iconst 1, 1) := by decide +kernel
theorem dX9_areAgreed_176 : decode cX9_areAgreed 176 = .ok (.ireturn, 1) := by decide +kernel
theorem dX9_cone_0 : decode cX9_cone 0 = .ok (.iload_n 1, 1) := by decide +kernel
theorem dX9_cone_1 : decode cX9_cone 1 = .ok (.iconst 0, 1) := by decide +kernel
theorem dX9_cone_2 : decode cX9_cone 2 = .ok (.bipush 7, 2) := by decide +kernel
theorem dX9_cone_4 : decode cX9_cone 4 = .ok (.invokestatic 91, 3) := by decide +kernel
theorem dX9_cone_7 : decode cX9_cone 7 = .ok (.ifCond .ne 5, 3) := by decide +kernel
theorem dX9_cone_10 : decode cX9_cone 10 = .ok (.iconst (-1), 1) := by decide +kernel
theorem dX9_cone_11 : decode cX9_cone 11 = .ok (.ireturn, 1) := by decide +kernel
theorem dX9_cone_12 : decode cX9_cone 12 = .ok (.aload_n 0, 1) := by decide +kernel
theorem dX9_cone_13 : decode cX9_cone 13 = .ok (.aload_n 0, 1) := by decide +kernel
theorem dX9_cone_14 : decode cX9_cone 14 = .ok (.getfield 15, 3) := by decide +kernel
theorem dX9_cone_17 : decode cX9_cone 17 = .ok (.invokevirtual 150, 3) := by decide +kernel
theorem dX9_cone_20 : decode cX9_cone 20 = .ok (.aload_n 0, 1) := by decide +kernel
theorem dX9_cone_21 : decode cX9_cone 21 = .ok (.getfield 107, 3) := by decide +kernel
theorem dX9_cone_24 : decode cX9_cone 24 = .ok (.iload_n 1, 1) := by decide +kernel
theorem dX9_cone_25 : decode cX9_cone 25 = .ok (.ishr, 1) := by decide +kernel
theorem dX9_cone_26 : decode cX9_cone 26 = .ok (.iconst 1, 1) := by decide +kernel
theorem dX9_cone_27 : decode cX9_cone 27 = .ok (.iand, 1) := by decide +kernel
theorem dX9_cone_28 : decode cX9_cone 28 = .ok (.iconst 1, 1) := by decide +kernel
theorem dX9_cone_29 : decode cX9_cone 29 = .ok (.if_icmp .ne 6, 3) := by decide +kernel
theorem dX9_cone_32 : decode cX9_cone 32 = .ok (.bipush (-3), 2) := by decide +kernel
theorem dX9_cone_34 : decode cX9_cone 34 = .ok (.ireturn, 1) := by decide +kernel
theorem dX9_cone_35 : decode cX9_cone 35 = .ok (.aload_n 0, 1) := by decide +kernel
theorem dX9_cone_36 : decode cX9_cone 36 = .ok (.invokevirtual 130, 3) := by decide +kernel
theorem dX9_cone_39 : decode cX9_cone 39 = .ok (.iconst 1, 1) := by decide +kernel
theorem dX9_cone_40 : decode cX9_cone 40 = .ok (.istore_n 2, 1) := by decide +kernel
theorem dX9_cone_41 : decode cX9_cone 41 = .ok (.iload_n 2, 1) := by decide +kernel
theorem dX9_cone_42 : decode cX9_cone 42 = .ok (.sipush 256, 3) := by decide +kernel
theorem dX9_cone_45 : decode cX9_cone 45 = .ok (.if_icmp .ge 32, 3) := by decide +kernel
theorem dX9_cone_48 : decode cX9_cone 48 = .ok (.aload_n 0, 1) := by decide +kernel
theorem dX9_cone_49 : decode cX9_cone 49 = .ok (.iload_n 2, 1) := by decide +kernel
theorem dX9_cone_50 : decode cX9_cone 50 = .ok (.aload_n 0, 1) := by decide +kernel
theorem dX9_cone_51 : decode cX9_cone 51 = .ok (.getfield 9, 3) := by decide +kernel
theorem dX9_cone_54 : decode cX9_cone 54 = .ok (.invokevirtual 116, 3) := by decide +kernel
theorem dX9_cone_57 : decode cX9_cone 57 = .ok (.ifCond .eq 14, 3) := by decide +kernel
theorem dX9_cone_60 : decode cX9_cone 60 = .ok (.aload_n 0, 1) := by decide +kernel
theorem dX9_cone_61 : decode cX9_cone 61 = .ok (.getfield 15, 3) := by decide +kernel
theorem dX9_cone_64 : decode cX9_cone 64 = .ok (.iload_n 2, 1) := by decide +kernel
theorem dX9_cone_65 : decode cX9_cone 65 = .ok (.iconst 1, 1) := by decide +kernel
theorem dX9_cone_66 : decode cX9_cone 66 = .ok (.iload_n 1, 1) := by decide +kernel
theorem dX9_cone_67 : decode cX9_cone 67 = .ok (.ishl, 1) := by decide +kernel
theorem dX9_cone_68 : decode cX9_cone 68 = .ok (.ior, 1) := by decide +kernel
theorem dX9_cone_69 : decode cX9_cone 69 = .ok (.iconst 1, 1) := by decide +kernel
theorem dX9_cone_70 : decode cX9_cone 70 = .ok (.bastore, 1) := by decide +kernel
theorem dX9_cone_71 : decode cX9_cone 71 = .ok (.iinc 2 1, 3) := by decide +kernel
theorem dX9_cone_74 : decode cX9_cone 74 = .ok (.goto (-33), 3) := by decide +kernel
theorem dX9_cone_77 : decode cX9_cone 77 = .ok (.aload_n 0, 1) := by decide +kernel
theorem dX9_cone_78 : decode cX9_cone 78 = .ok (.getfield 15, 3) := by decide +kernel
theorem dX9_cone_81 : decode cX9_cone 81 = .ok (.invokestatic 140, 3) := by decide +kernel
theorem dX9_cone_84 : decode cX9_cone 84 = .ok (.ireturn, 1) := by decide +kernel
theorem dX9_faces_0 : decode cX9_faces 0 = .ok (.iload_n 1, 1) := by decide +kernel
theorem dX9_faces_1 : decode cX9_faces 1 = .ok (.iconst 1, 1) := by decide +kernel
theorem dX9_faces_2 : decode cX9_faces 2 = .ok (.iconst 4, 1) := by decide +kernel
theorem dX9_faces_3 : decode cX9_faces 3 = .ok (.invokestatic 91, 3) := by decide +kernel
theorem dX9_faces_6 : decode cX9_faces 6 = .ok (.ifCond .ne 6, 3) := by decide +kernel
theorem dX9_faces_9 : decode cX9_faces 9 = .ok (.bipush (-2), 2) := by decide +kernel
theorem dX9_faces_11 : decode cX9_faces 11 = .ok (.ireturn, 1) := by decide +kernel
theorem dX9_faces_12 : decode cX9_faces 12 = .ok (.aload_n 0, 1) := by decide +kernel
theorem dX9_faces_13 : decode cX9_faces 13 = .ok (.aload_n 0, 1) := by decide +kernel
theorem dX9_faces_14 : decode cX9_faces 14 = .ok (.getfield 15, 3) := by decide +kernel
theorem dX9_faces_17 : decode cX9_faces 17 = .ok (.invokevirtual 150, 3) := by decide +kernel
theorem dX9_faces_20 : decode cX9_faces 20 = .ok (.aload_n 0, 1) := by decide +kernel
theorem dX9_faces_21 : decode cX9_faces 21 = .ok (.iload_n 1, 1) := by decide +kernel
theorem dX9_faces_22 : decode cX9_faces 22 = .ok (.invokevirtual 113, 3) := by decide +kernel
theorem dX9_faces_25 : decode cX9_faces 25 = .ok (.ireturn, 1) := by decide +kernel
theorem dX9_face_0 : decode cX9_face 0 = .ok (.iload_n 1, 1) := by decide +kernel
theorem dX9_face_1 : decode cX9_face 1 = .ok (.invokestatic 144, 3) := by decide +kernel
theorem dX9_face_4 : decode cX9_face 4 = .ok (.ifCond .eq 12, 3) := by decide +kernel
theorem dX9_face_7 : decode cX9_face 7 = .ok (.iload_n 2, 1) := by decide +kernel
theorem dX9_face_8 : decode cX9_face 8 = .ok (.iconst 0, 1) := by decide +kernel
theorem dX9_face_9 : decode cX9_face 9 = .ok (.iconst 3, 1) := by decide +kernel
theorem dX9_face_10 : decode cX9_face 10 = .ok (.invokestatic 91, 3) := by decide +kernel
theorem dX9_face_13 : decode cX9_face 13 = .ok (.ifCond .ne 5, 3) := by decide +kernel
theorem dX9_face_16 : decode cX9_face 16 = .ok (.iconst (-1), 1) := by decide +kernel
theorem dX9_face_17 : decode cX9_face 17 = .ok (.ireturn, 1) := by decide +kernel
theorem dX9_face_18 : decode cX9_face 18 = .ok (.aload_n 0, 1) := by decide +kernel
theorem dX9_face_19 : decode cX9_face 19 = .ok (.aload_n 0, 1) := by decide +kernel
theorem dX9_face_20 : decode cX9_face 20 = .ok (.getfield 15, 3) := by decide +kernel
theorem dX9_face_23 : decode cX9_face 23 = .ok (.invokevirtual 150, 3) := by decide +kernel
theorem dX9_face_26 : decode cX9_face 26 = .ok (.iload_n 2, 1) := by decide +kernel
theorem dX9_face_27 : decode cX9_face 27 = .ok (.tableswitch 53 0 2 #[25, 40, 47], 25) := by decide +kernel
theorem dX9_face_52 : decode cX9_face 52 = .ok (.aload_n 0, 1) := by decide +kernel
theorem dX9_face_53 : decode cX9_face 53 = .ok (.getfield 19, 3) := by decide +kernel
theorem dX9_face_56 : decode cX9_face 56 = .ok (.iload_n 1, 1) := by decide +kernel
theorem dX9_face_57 : decode cX9_face 57 = .ok (.baload, 1) := by decide +kernel
theorem dX9_face_58 : decode cX9_face 58 = .ok (.ifCond .eq 7, 3) := by decide +kernel
theorem dX9_face_61 : decode cX9_face 61 = .ok (.iconst 1, 1) := by decide +kernel
theorem dX9_face_62 : decode cX9_face 62 = .ok (.goto 4, 3) := by decide +kernel
theorem dX9_face_65 : decode cX9_face 65 = .ok (.iconst 0, 1) := by decide +kernel
theorem dX9_face_66 : decode cX9_face 66 = .ok (.ireturn, 1) := by decide +kernel
theorem dX9_face_67 : decode cX9_face 67 = .ok (.aload_n 0, 1) := by decide +kernel
theorem dX9_face_68 : decode cX9_face 68 = .ok (.getfield 22, 3) := by decide +kernel
theorem dX9_face_71 : decode cX9_face 71 = .ok (.iload_n 1, 1) := by decide +kernel
theorem dX9_face_72 : decode cX9_face 72 = .ok (.iaload, 1) := by decide +kernel
theorem dX9_face_73 : decode cX9_face 73 = .ok (.ireturn, 1) := by decide +kernel
theorem dX9_face_74 : decode cX9_face 74 = .ok (.aload_n 0, 1) := by decide +kernel
theorem dX9_face_75 : decode cX9_face 75 = .ok (.iload_n 1, 1) := by decide +kernel
theorem dX9_face_76 : decode cX9_face 76 = .ok (.invokevirtual 194, 3) := by decide +kernel
theorem dX9_face_79 : decode cX9_face 79 = .ok (.ireturn, 1) := by decide +kernel
theorem dX9_face_80 : decode cX9_face 80 = .ok (.aload_n 0, 1) := by decide +kernel
theorem dX9_face_81 : decode cX9_face 81 = .ok (.iload_n 1, 1) := by decide +kernel
theorem dX9_face_82 : decode cX9_face 82 = .ok (.invokevirtual 197, 3) := by decide +kernel
theorem dX9_face_85 : decode cX9_face 85 = .ok (.ireturn, 1) := by decide +kernel
theorem dX9_wall_0 : decode cX9_wall 0 = .ok (.iload_n 1, 1) := by decide +kernel
theorem dX9_wall_1 : decode cX9_wall 1 = .ok (.ifCond .ge 5, 3) := by decide +kernel
theorem dX9_wall_4 : decode cX9_wall 4 = .ok (.iconst (-1), 1) := by decide +kernel
theorem dX9_wall_5 : decode cX9_wall 5 = .ok (.ireturn, 1) := by decide +kernel
theorem dX9_wall_6 : decode cX9_wall 6 = .ok (.aload_n 0, 1) := by decide +kernel
theorem dX9_wall_7 : decode cX9_wall 7 = .ok (.aload_n 0, 1) := by decide +kernel
theorem dX9_wall_8 : decode cX9_wall 8 = .ok (.getfield 15, 3) := by decide +kernel
theorem dX9_wall_11 : decode cX9_wall 11 = .ok (.invokevirtual 150, 3) := by decide +kernel
theorem dX9_wall_14 : decode cX9_wall 14 = .ok (.iload_n 1, 1) := by decide +kernel
theorem dX9_wall_15 : decode cX9_wall 15 = .ok (.istore_n 2, 1) := by decide +kernel
theorem dX9_wall_16 : decode cX9_wall 16 = .ok (.iconst 1, 1) := by decide +kernel
theorem dX9_wall_17 : decode cX9_wall 17 = .ok (.istore_n 3, 1) := by decide +kernel
theorem dX9_wall_18 : decode cX9_wall 18 = .ok (.iload_n 3, 1) := by decide +kernel
theorem dX9_wall_19 : decode cX9_wall 19 = .ok (.sipush 256, 3) := by decide +kernel
theorem dX9_wall_22 : decode cX9_wall 22 = .ok (.if_icmp .ge 33, 3) := by decide +kernel
theorem dX9_wall_25 : decode cX9_wall 25 = .ok (.aload_n 0, 1) := by decide +kernel
theorem dX9_wall_26 : decode cX9_wall 26 = .ok (.iload_n 3, 1) := by decide +kernel
theorem dX9_wall_27 : decode cX9_wall 27 = .ok (.aload_n 0, 1) := by decide +kernel
theorem dX9_wall_28 : decode cX9_wall 28 = .ok (.getfield 9, 3) := by decide +kernel
theorem dX9_wall_31 : decode cX9_wall 31 = .ok (.invokevirtual 116, 3) := by decide +kernel
theorem dX9_wall_34 : decode cX9_wall 34 = .ok (.ifCond .ne 6, 3) := by decide +kernel
theorem dX9_wall_37 : decode cX9_wall 37 = .ok (.goto 12, 3) := by decide +kernel
theorem dX9_wall_40 : decode cX9_wall 40 = .ok (.iload_n 2, 1) := by decide +kernel
theorem dX9_wall_41 : decode cX9_wall 41 = .ok (.ifCond .ne 5, 3) := by decide +kernel
theorem dX9_wall_44 : decode cX9_wall 44 = .ok (.iload_n 3, 1) := by decide +kernel
theorem dX9_wall_45 : decode cX9_wall 45 = .ok (.ireturn, 1) := by decide +kernel
theorem dX9_wall_46 : decode cX9_wall 46 = .ok (.iinc 2 (-1), 3) := by decide +kernel
theorem dX9_wall_49 : decode cX9_wall 49 = .ok (.iinc 3 1, 3) := by decide +kernel
theorem dX9_wall_52 : decode cX9_wall 52 = .ok (.goto (-34), 3) := by decide +kernel
theorem dX9_wall_55 : decode cX9_wall 55 = .ok (.bipush (-5), 2) := by decide +kernel
theorem dX9_wall_57 : decode cX9_wall 57 = .ok (.ireturn, 1) := by decide +kernel
theorem dX9_forWhat_0 : decode cX9_forWhat 0 = .ok (.aload_n 0, 1) := by decide +kernel
theorem dX9_forWhat_1 : decode cX9_forWhat 1 = .ok (.getfield 19, 3) := by decide +kernel
theorem dX9_forWhat_4 : decode cX9_forWhat 4 = .ok (.iload_n 1, 1) := by decide +kernel
theorem dX9_forWhat_5 : decode cX9_forWhat 5 = .ok (.baload, 1) := by decide +kernel
theorem dX9_forWhat_6 : decode cX9_forWhat 6 = .ok (.ifCond .ne 5, 3) := by decide +kernel
theorem dX9_forWhat_9 : decode cX9_forWhat 9 = .ok (.iconst 0, 1) := by decide +kernel
theorem dX9_forWhat_10 : decode cX9_forWhat 10 = .ok (.ireturn, 1) := by decide +kernel
theorem dX9_forWhat_11 : decode cX9_forWhat 11 = .ok (.iload_n 1, 1) := by decide +kernel
theorem dX9_forWhat_12 : decode cX9_forWhat 12 = .ok (.invokestatic 110, 3) := by decide +kernel
theorem dX9_forWhat_15 : decode cX9_forWhat 15 = .ok (.aload_n 0, 1) := by decide +kernel
theorem dX9_forWhat_16 : decode cX9_forWhat 16 = .ok (.getfield 9, 3) := by decide +kernel
theorem dX9_forWhat_19 : decode cX9_forWhat 19 = .ok (.if_icmp .ne 43, 3) := by decide +kernel
theorem dX9_forWhat_22 : decode cX9_forWhat 22 = .ok (.iconst 0, 1) := by decide +kernel
theorem dX9_forWhat_23 : decode cX9_forWhat 23 = .ok (.istore_n 2, 1) := by decide +kernel
theorem dX9_forWhat_24 : decode cX9_forWhat 24 = .ok (.iload_n 2, 1) := by decide +kernel
theorem dX9_forWhat_25 : decode cX9_forWhat 25 = .ok (.bipush 8, 2) := by decide +kernel
theorem dX9_forWhat_27 : decode cX9_forWhat 27 = .ok (.if_icmp .ge 21, 3) := by decide +kernel
theorem dX9_forWhat_30 : decode cX9_forWhat 30 = .ok (.aload_n 0, 1) := by decide +kernel
theorem dX9_forWhat_31 : decode cX9_forWhat 31 = .ok (.getfield 107, 3) := by decide +kernel
theorem dX9_forWhat_34 : decode cX9_forWhat 34 = .ok (.iload_n 2, 1) := by decide +kernel
theorem dX9_forWhat_35 : decode cX9_forWhat 35 = .ok (.ishr, 1) := by decide +kernel
theorem dX9_forWhat_36 : decode cX9_forWhat 36 = .ok (.iconst 1, 1) := by decide +kernel
theorem dX9_forWhat_37 : decode cX9_forWhat 37 = .ok (.iand, 1) := by decide +kernel
theorem dX9_forWhat_38 : decode cX9_forWhat 38 = .ok (.iconst 1, 1) := by decide +kernel
theorem dX9_forWhat_39 : decode cX9_forWhat 39 = .ok (.if_icmp .ne 9, 3) := by decide +kernel
theorem dX9_forWhat_42 : decode cX9_forWhat 42 = .ok (.iinc 2 1, 3) := by decide +kernel
theorem dX9_forWhat_45 : decode cX9_forWhat 45 = .ok (.goto (-21), 3) := by decide +kernel
theorem dX9_forWhat_48 : decode cX9_forWhat 48 = .ok (.iload_n 2, 1) := by decide +kernel
theorem dX9_forWhat_49 : decode cX9_forWhat 49 = .ok (.bipush 8, 2) := by decide +kernel
theorem dX9_forWhat_51 : decode cX9_forWhat 51 = .ok (.if_icmp .ge 9, 3) := by decide +kernel
theorem dX9_forWhat_54 : decode cX9_forWhat 54 = .ok (.iconst 1, 1) := by decide +kernel
theorem dX9_forWhat_55 : decode cX9_forWhat 55 = .ok (.iload_n 2, 1) := by decide +kernel
theorem dX9_forWhat_56 : decode cX9_forWhat 56 = .ok (.ishl, 1) := by decide +kernel
theorem dX9_forWhat_57 : decode cX9_forWhat 57 = .ok (.goto 4, 3) := by decide +kernel
theorem dX9_forWhat_60 : decode cX9_forWhat 60 = .ok (.iconst 0, 1) := by decide +kernel
theorem dX9_forWhat_61 : decode cX9_forWhat 61 = .ok (.ireturn, 1) := by decide +kernel
theorem dX9_forWhat_62 : decode cX9_forWhat 62 = .ok (.aload_n 0, 1) := by decide +kernel
theorem dX9_forWhat_63 : decode cX9_forWhat 63 = .ok (.iload_n 1, 1) := by decide +kernel
theorem dX9_forWhat_64 : decode cX9_forWhat 64 = .ok (.invokevirtual 197, 3) := by decide +kernel
theorem dX9_forWhat_67 : decode cX9_forWhat 67 = .ok (.istore_n 2, 1) := by decide +kernel
theorem dX9_forWhat_68 : decode cX9_forWhat 68 = .ok (.iload_n 2, 1) := by decide +kernel
theorem dX9_forWhat_69 : decode cX9_forWhat 69 = .ok (.invokestatic 110, 3) := by decide +kernel
theorem dX9_forWhat_72 : decode cX9_forWhat 72 = .ok (.istore_n 3, 1) := by decide +kernel
theorem dX9_forWhat_73 : decode cX9_forWhat 73 = .ok (.iload_n 1, 1) := by decide +kernel
theorem dX9_forWhat_74 : decode cX9_forWhat 74 = .ok (.invokestatic 110, 3) := by decide +kernel
theorem dX9_forWhat_77 : decode cX9_forWhat 77 = .ok (.iload_n 3, 1) := by decide +kernel
theorem dX9_forWhat_78 : decode cX9_forWhat 78 = .ok (.iadd, 1) := by decide +kernel
theorem dX9_forWhat_79 : decode cX9_forWhat 79 = .ok (.aload_n 0, 1) := by decide +kernel
theorem dX9_forWhat_80 : decode cX9_forWhat 80 = .ok (.getfield 9, 3) := by decide +kernel
theorem dX9_forWhat_83 : decode cX9_forWhat 83 = .ok (.iconst 1, 1) := by decide +kernel
theorem dX9_forWhat_84 : decode cX9_forWhat 84 = .ok (.iadd, 1) := by decide +kernel
theorem dX9_forWhat_85 : decode cX9_forWhat 85 = .ok (.if_icmp .ne 29, 3) := by decide +kernel
theorem dX9_forWhat_88 : decode cX9_forWhat 88 = .ok (.aload_n 0, 1) := by decide +kernel
theorem dX9_forWhat_89 : decode cX9_forWhat 89 = .ok (.getfield 19, 3) := by decide +kernel
theorem dX9_forWhat_92 : decode cX9_forWhat 92 = .ok (.iload_n 2, 1) := by decide +kernel
theorem dX9_forWhat_93 : decode cX9_forWhat 93 = .ok (.baload, 1) := by decide +kernel
theorem dX9_forWhat_94 : decode cX9_forWhat 94 = .ok (.ifCond .ne 20, 3) := by decide +kernel
theorem dX9_forWhat_97 : decode cX9_forWhat 97 = .ok (.aload_n 0, 1) := by decide +kernel
theorem dX9_forWhat_98 : decode cX9_forWhat 98 = .ok (.iload_n 1, 1) := by decide +kernel
theorem dX9_forWhat_99 : decode cX9_forWhat 99 = .ok (.invokevirtual 194, 3) := by decide +kernel
theorem dX9_forWhat_102 : decode cX9_forWhat 102 = .ok (.iconst 1, 1) := by decide +kernel
theorem dX9_forWhat_103 : decode cX9_forWhat 103 = .ok (.iload_n 3, 1) := by decide +kernel
theorem dX9_forWhat_104 : decode cX9_forWhat 104 = .ok (.ishl, 1) := by decide +kernel
theorem dX9_forWhat_105 : decode cX9_forWhat 105 = .ok (.iconst 1, 1) := by decide +kernel
theorem dX9_forWhat_106 : decode cX9_forWhat 106 = .ok (.isub, 1) := by decide +kernel
theorem dX9_forWhat_107 : decode cX9_forWhat 107 = .ok (.if_icmp .ne 7, 3) := by decide +kernel
theorem dX9_forWhat_110 : decode cX9_forWhat 110 = .ok (.iload_n 2, 1) := by decide +kernel
theorem dX9_forWhat_111 : decode cX9_forWhat 111 = .ok (.goto 4, 3) := by decide +kernel
theorem dX9_forWhat_114 : decode cX9_forWhat 114 = .ok (.iconst 0, 1) := by decide +kernel
theorem dX9_forWhat_115 : decode cX9_forWhat 115 = .ok (.ireturn, 1) := by decide +kernel
theorem dX9_layFlips_0 : decode cX9_layFlips 0 = .ok (.aload_n 0, 1) := by decide +kernel
theorem dX9_layFlips_1 : decode cX9_layFlips 1 = .ok (.aload_n 1, 1) := by decide +kernel
theorem dX9_layFlips_2 : decode cX9_layFlips 2 = .ok (.invokevirtual 150, 3) := by decide +kernel
theorem dX9_layFlips_5 : decode cX9_layFlips 5 = .ok (.iconst 0, 1) := by decide +kernel
theorem dX9_layFlips_6 : decode cX9_layFlips 6 = .ok (.istore_n 3, 1) := by decide +kernel
theorem dX9_layFlips_7 : decode cX9_layFlips 7 = .ok (.iconst 1, 1) := by decide +kernel
theorem dX9_layFlips_8 : decode cX9_layFlips 8 = .ok (.istore 4, 2) := by decide +kernel
theorem dX9_layFlips_10 : decode cX9_layFlips 10 = .ok (.iload 4, 2) := by decide +kernel
theorem dX9_layFlips_12 : decode cX9_layFlips 12 = .ok (.sipush 256, 3) := by decide +kernel
theorem dX9_layFlips_15 : decode cX9_layFlips 15 = .ok (.if_icmp .ge 48, 3) := by decide +kernel
theorem dX9_layFlips_18 : decode cX9_layFlips 18 = .ok (.aload_n 0, 1) := by decide +kernel
theorem dX9_layFlips_19 : decode cX9_layFlips 19 = .ok (.iload 4, 2) := by decide +kernel
theorem dX9_layFlips_21 : decode cX9_layFlips 21 = .ok (.invokevirtual 200, 3) := by decide +kernel
theorem dX9_layFlips_24 : decode cX9_layFlips 24 = .ok (.istore 5, 2) := by decide +kernel
theorem dX9_layFlips_26 : decode cX9_layFlips 26 = .ok (.iload 5, 2) := by decide +kernel
theorem dX9_layFlips_28 : decode cX9_layFlips 28 = .ok (.ifCond .ne 6, 3) := by decide +kernel
theorem dX9_layFlips_31 : decode cX9_layFlips 31 = .ok (.goto 26, 3) := by decide +kernel
theorem dX9_layFlips_34 : decode cX9_layFlips 34 = .ok (.aload_n 0, 1) := by decide +kernel
theorem dX9_layFlips_35 : decode cX9_layFlips 35 = .ok (.getfield 39, 3) := by decide +kernel
theorem dX9_layFlips_38 : decode cX9_layFlips 38 = .ok (.iload_n 2, 1) := by decide +kernel
theorem dX9_layFlips_39 : decode cX9_layFlips 39 = .ok (.aaload, 1) := by decide +kernel
theorem dX9_layFlips_40 : decode cX9_layFlips 40 = .ok (.iload_n 3, 1) := by decide +kernel
theorem dX9_layFlips_41 : decode cX9_layFlips 41 = .ok (.iload 4, 2) := by decide +kernel
theorem dX9_layFlips_43 : decode cX9_layFlips 43 = .ok (.iastore, 1) := by decide +kernel
theorem dX9_layFlips_44 : decode cX9_layFlips 44 = .ok (.aload_n 0, 1) := by decide +kernel
theorem dX9_layFlips_45 : decode cX9_layFlips 45 = .ok (.getfield 42, 3) := by decide +kernel
theorem dX9_layFlips_48 : decode cX9_layFlips 48 = .ok (.iload_n 2, 1) := by decide +kernel
theorem dX9_layFlips_49 : decode cX9_layFlips 49 = .ok (.aaload, 1) := by decide +kernel
theorem dX9_layFlips_50 : decode cX9_layFlips 50 = .ok (.iload_n 3, 1) := by decide +kernel
theorem dX9_layFlips_51 : decode cX9_layFlips 51 = .ok (.iload 5, 2) := by decide +kernel
theorem dX9_layFlips_53 : decode cX9_layFlips 53 = .ok (.iastore, 1) := by decide +kernel
theorem dX9_layFlips_54 : decode cX9_layFlips 54 = .ok (.iinc 3 1, 3) := by decide +kernel
theorem dX9_layFlips_57 : decode cX9_layFlips 57 = .ok (.iinc 4 1, 3) := by decide +kernel
theorem dX9_layFlips_60 : decode cX9_layFlips 60 = .ok (.goto (-50), 3) := by decide +kernel
theorem dX9_layFlips_63 : decode cX9_layFlips 63 = .ok (.aload_n 0, 1) := by decide +kernel
theorem dX9_layFlips_64 : decode cX9_layFlips 64 = .ok (.getfield 45, 3) := by decide +kernel
theorem dX9_layFlips_67 : decode cX9_layFlips 67 = .ok (.iload_n 2, 1) := by decide +kernel
theorem dX9_layFlips_68 : decode cX9_layFlips 68 = .ok (.iload_n 3, 1) := by decide +kernel
theorem dX9_layFlips_69 : decode cX9_layFlips 69 = .ok (.iastore, 1) := by decide +kernel
theorem dX9_layFlips_70 : decode cX9_layFlips 70 = .ok (.return_, 1) := by decide +kernel
theorem dX9_does_0 : decode cX9_does 0 = .ok (.iconst 1, 1) := by decide +kernel
theorem dX9_does_1 : decode cX9_does 1 = .ok (.istore 4, 2) := by decide +kernel
theorem dX9_does_3 : decode cX9_does 3 = .ok (.iload 4, 2) := by decide +kernel
theorem dX9_does_5 : decode cX9_does 5 = .ok (.sipush 256, 3) := by decide +kernel
theorem dX9_does_8 : decode cX9_does 8 = .ok (.if_icmp .ge 22, 3) := by decide +kernel
theorem dX9_does_11 : decode cX9_does 11 = .ok (.iload 4, 2) := by decide +kernel
theorem dX9_does_13 : decode cX9_does 13 = .ok (.iload_n 2, 1) := by decide +kernel
theorem dX9_does_14 : decode cX9_does 14 = .ok (.iand, 1) := by decide +kernel
theorem dX9_does_15 : decode cX9_does 15 = .ok (.iload_n 2, 1) := by decide +kernel
theorem dX9_does_16 : decode cX9_does 16 = .ok (.if_icmp .ne 8, 3) := by decide +kernel
theorem dX9_does_19 : decode cX9_does 19 = .ok (.aload_n 1, 1) := by decide +kernel
theorem dX9_does_20 : decode cX9_does 20 = .ok (.iload 4, 2) := by decide +kernel
theorem dX9_does_22 : decode cX9_does 22 = .ok (.iconst 0, 1) := by decide +kernel
theorem dX9_does_23 : decode cX9_does 23 = .ok (.bastore, 1) := by decide +kernel
theorem dX9_does_24 : decode cX9_does 24 = .ok (.iinc 4 1, 3) := by decide +kernel
theorem dX9_does_27 : decode cX9_does 27 = .ok (.goto (-24), 3) := by decide +kernel
theorem dX9_does_30 : decode cX9_does 30 = .ok (.iconst 0, 1) := by decide +kernel
theorem dX9_does_31 : decode cX9_does 31 = .ok (.istore 4, 2) := by decide +kernel
theorem dX9_does_33 : decode cX9_does 33 = .ok (.iload 4, 2) := by decide +kernel
theorem dX9_does_35 : decode cX9_does 35 = .ok (.bipush 8, 2) := by decide +kernel
theorem dX9_does_37 : decode cX9_does 37 = .ok (.if_icmp .ge 32, 3) := by decide +kernel
theorem dX9_does_40 : decode cX9_does 40 = .ok (.iload_n 2, 1) := by decide +kernel
theorem dX9_does_41 : decode cX9_does 41 = .ok (.iload 4, 2) := by decide +kernel
theorem dX9_does_43 : decode cX9_does 43 = .ok (.ishr, 1) := by decide +kernel
theorem dX9_does_44 : decode cX9_does 44 = .ok (.iconst 1, 1) := by decide +kernel
theorem dX9_does_45 : decode cX9_does 45 = .ok (.iand, 1) := by decide +kernel
theorem dX9_does_46 : decode cX9_does 46 = .ok (.iconst 1, 1) := by decide +kernel
theorem dX9_does_47 : decode cX9_does 47 = .ok (.if_icmp .ne 16, 3) := by decide +kernel
theorem dX9_does_50 : decode cX9_does 50 = .ok (.aload_n 1, 1) := by decide +kernel
theorem dX9_does_51 : decode cX9_does 51 = .ok (.iload_n 2, 1) := by decide +kernel
theorem dX9_does_52 : decode cX9_does 52 = .ok (.iload_n 3, 1) := by decide +kernel
theorem dX9_does_53 : decode cX9_does 53 = .ok (.ior, 1) := by decide +kernel
theorem dX9_does_54 : decode cX9_does 54 = .ok (.iconst 1, 1) := by decide +kernel
theorem dX9_does_55 : decode cX9_does 55 = .ok (.iload 4, 2) := by decide +kernel
theorem dX9_does_57 : decode cX9_does 57 = .ok (.ishl, 1) := by decide +kernel
theorem dX9_does_58 : decode cX9_does 58 = .ok (.iconst (-1), 1) := by decide +kernel
theorem dX9_does_59 : decode cX9_does 59 = .ok (.ixor, 1) := by decide +kernel
theorem dX9_does_60 : decode cX9_does 60 = .ok (.iand, 1) := by decide +kernel
theorem dX9_does_61 : decode cX9_does 61 = .ok (.iconst 1, 1) := by decide +kernel
theorem dX9_does_62 : decode cX9_does 62 = .ok (.bastore, 1) := by decide +kernel
theorem dX9_does_63 : decode cX9_does 63 = .ok (.iinc 4 1, 3) := by decide +kernel
theorem dX9_does_66 : decode cX9_does 66 = .ok (.goto (-33), 3) := by decide +kernel
theorem dX9_does_69 : decode cX9_does 69 = .ok (.return_, 1) := by decide +kernel
theorem dX9_find_0 : decode cX9_find 0 = .ok (.iconst 0, 1) := by decide +kernel
theorem dX9_find_1 : decode cX9_find 1 = .ok (.istore_n 3, 1) := by decide +kernel
theorem dX9_find_2 : decode cX9_find 2 = .ok (.iload_n 3, 1) := by decide +kernel
theorem dX9_find_3 : decode cX9_find 3 = .ok (.aload_n 0, 1) := by decide +kernel
theorem dX9_find_4 : decode cX9_find 4 = .ok (.getfield 45, 3) := by decide +kernel
theorem dX9_find_7 : decode cX9_find 7 = .ok (.iload_n 2, 1) := by decide +kernel
theorem dX9_find_8 : decode cX9_find 8 = .ok (.iaload, 1) := by decide +kernel
theorem dX9_find_9 : decode cX9_find 9 = .ok (.if_icmp .ge 23, 3) := by decide +kernel
theorem dX9_find_12 : decode cX9_find 12 = .ok (.aload_n 0, 1) := by decide +kernel
theorem dX9_find_13 : decode cX9_find 13 = .ok (.getfield 39, 3) := by decide +kernel
theorem dX9_find_16 : decode cX9_find 16 = .ok (.iload_n 2, 1) := by decide +kernel
theorem dX9_find_17 : decode cX9_find 17 = .ok (.aaload, 1) := by decide +kernel
theorem dX9_find_18 : decode cX9_find 18 = .ok (.iload_n 3, 1) := by decide +kernel
theorem dX9_find_19 : decode cX9_find 19 = .ok (.iaload, 1) := by decide +kernel
theorem dX9_find_20 : decode cX9_find 20 = .ok (.iload_n 1, 1) := by decide +kernel
theorem dX9_find_21 : decode cX9_find 21 = .ok (.if_icmp .ne 5, 3) := by decide +kernel
theorem dX9_find_24 : decode cX9_find 24 = .ok (.iload_n 3, 1) := by decide +kernel
theorem dX9_find_25 : decode cX9_find 25 = .ok (.ireturn, 1) := by decide +kernel
theorem dX9_find_26 : decode cX9_find 26 = .ok (.iinc 3 1, 3) := by decide +kernel
theorem dX9_find_29 : decode cX9_find 29 = .ok (.goto (-27), 3) := by decide +kernel
theorem dX9_find_32 : decode cX9_find 32 = .ok (.bipush (-5), 2) := by decide +kernel
theorem dX9_find_34 : decode cX9_find 34 = .ok (.ireturn, 1) := by decide +kernel
theorem dX9_flips_0 : decode cX9_flips 0 = .ok (.iload_n 1, 1) := by decide +kernel
theorem dX9_flips_1 : decode cX9_flips 1 = .ok (.iconst 0, 1) := by decide +kernel
theorem dX9_flips_2 : decode cX9_flips 2 = .ok (.aload_n 0, 1) := by decide +kernel
theorem dX9_flips_3 : decode cX9_flips 3 = .ok (.getfield 9, 3) := by decide +kernel
theorem dX9_flips_6 : decode cX9_flips 6 = .ok (.invokestatic 91, 3) := by decide +kernel
theorem dX9_flips_9 : decode cX9_flips 9 = .ok (.ifCond .ne 6, 3) := by decide +kernel
theorem dX9_flips_12 : decode cX9_flips 12 = .ok (.bipush (-2), 2) := by decide +kernel
theorem dX9_flips_14 : decode cX9_flips 14 = .ok (.ireturn, 1) := by decide +kernel
theorem dX9_flips_15 : decode cX9_flips 15 = .ok (.aload_n 0, 1) := by decide +kernel
theorem dX9_flips_16 : decode cX9_flips 16 = .ok (.aload_n 0, 1) := by decide +kernel
theorem dX9_flips_17 : decode cX9_flips 17 = .ok (.getfield 15, 3) := by decide +kernel
theorem dX9_flips_20 : decode cX9_flips 20 = .ok (.iconst 0, 1) := by decide +kernel
theorem dX9_flips_21 : decode cX9_flips 21 = .ok (.invokevirtual 203, 3) := by decide +kernel
theorem dX9_flips_24 : decode cX9_flips 24 = .ok (.iconst 0, 1) := by decide +kernel
theorem dX9_flips_25 : decode cX9_flips 25 = .ok (.istore_n 2, 1) := by decide +kernel
theorem dX9_flips_26 : decode cX9_flips 26 = .ok (.iconst 0, 1) := by decide +kernel
theorem dX9_flips_27 : decode cX9_flips 27 = .ok (.istore_n 3, 1) := by decide +kernel
theorem dX9_flips_28 : decode cX9_flips 28 = .ok (.iload_n 3, 1) := by decide +kernel
theorem dX9_flips_29 : decode cX9_flips 29 = .ok (.aload_n 0, 1) := by decide +kernel
theorem dX9_flips_30 : decode cX9_flips 30 = .ok (.getfield 45, 3) := by decide +kernel
theorem dX9_flips_33 : decode cX9_flips 33 = .ok (.iconst 0, 1) := by decide +kernel
theorem dX9_flips_34 : decode cX9_flips 34 = .ok (.iaload, 1) := by decide +kernel
theorem dX9_flips_35 : decode cX9_flips 35 = .ok (.if_icmp .ge 31, 3) := by decide +kernel
theorem dX9_flips_38 : decode cX9_flips 38 = .ok (.iload_n 1, 1) := by decide +kernel
theorem dX9_flips_39 : decode cX9_flips 39 = .ok (.ifCond .eq 18, 3) := by decide +kernel
theorem dX9_flips_42 : decode cX9_flips 42 = .ok (.aload_n 0, 1) := by decide +kernel
theorem dX9_flips_43 : decode cX9_flips 43 = .ok (.getfield 42, 3) := by decide +kernel
theorem dX9_flips_46 : decode cX9_flips 46 = .ok (.iconst 0, 1) := by decide +kernel
theorem dX9_flips_47 : decode cX9_flips 47 = .ok (.aaload, 1) := by decide +kernel
theorem dX9_flips_48 : decode cX9_flips 48 = .ok (.iload_n 3, 1) := by decide +kernel
theorem dX9_flips_49 : decode cX9_flips 49 = .ok (.iaload, 1) := by decide +kernel
theorem dX9_flips_50 : decode cX9_flips 50 = .ok (.invokestatic 110, 3) := by decide +kernel
theorem dX9_flips_53 : decode cX9_flips 53 = .ok (.iload_n 1, 1) := by decide +kernel
theorem dX9_flips_54 : decode cX9_flips 54 = .ok (.if_icmp .ne 6, 3) := by decide +kernel
theorem dX9_flips_57 : decode cX9_flips 57 = .ok (.iinc 2 1, 3) := by decide +kernel
theorem dX9_flips_60 : decode cX9_flips 60 = .ok (.iinc 3 1, 3) := by decide +kernel
theorem dX9_flips_63 : decode cX9_flips 63 = .ok (.goto (-35), 3) := by decide +kernel
theorem dX9_flips_66 : decode cX9_flips 66 = .ok (.iload_n 2, 1) := by decide +kernel
theorem dX9_flips_67 : decode cX9_flips 67 = .ok (.ireturn, 1) := by decide +kernel
theorem dX9_flipOf_0 : decode cX9_flipOf 0 = .ok (.aload_n 0, 1) := by decide +kernel
theorem dX9_flipOf_1 : decode cX9_flipOf 1 = .ok (.aload_n 0, 1) := by decide +kernel
theorem dX9_flipOf_2 : decode cX9_flipOf 2 = .ok (.getfield 15, 3) := by decide +kernel
theorem dX9_flipOf_5 : decode cX9_flipOf 5 = .ok (.iconst 0, 1) := by decide +kernel
theorem dX9_flipOf_6 : decode cX9_flipOf 6 = .ok (.invokevirtual 203, 3) := by decide +kernel
theorem dX9_flipOf_9 : decode cX9_flipOf 9 = .ok (.iload_n 1, 1) := by decide +kernel
theorem dX9_flipOf_10 : decode cX9_flipOf 10 = .ok (.iconst 0, 1) := by decide +kernel
theorem dX9_flipOf_11 : decode cX9_flipOf 11 = .ok (.aload_n 0, 1) := by decide +kernel
theorem dX9_flipOf_12 : decode cX9_flipOf 12 = .ok (.getfield 45, 3) := by decide +kernel
theorem dX9_flipOf_15 : decode cX9_flipOf 15 = .ok (.iconst 0, 1) := by decide +kernel
theorem dX9_flipOf_16 : decode cX9_flipOf 16 = .ok (.iaload, 1) := by decide +kernel
theorem dX9_flipOf_17 : decode cX9_flipOf 17 = .ok (.iconst 1, 1) := by decide +kernel
theorem dX9_flipOf_18 : decode cX9_flipOf 18 = .ok (.isub, 1) := by decide +kernel
theorem dX9_flipOf_19 : decode cX9_flipOf 19 = .ok (.invokestatic 91, 3) := by decide +kernel
theorem dX9_flipOf_22 : decode cX9_flipOf 22 = .ok (.ifCond .eq 12, 3) := by decide +kernel
theorem dX9_flipOf_25 : decode cX9_flipOf 25 = .ok (.iload_n 2, 1) := by decide +kernel
theorem dX9_flipOf_26 : decode cX9_flipOf 26 = .ok (.iconst 0, 1) := by decide +kernel
theorem dX9_flipOf_27 : decode cX9_flipOf 27 = .ok (.iconst 2, 1) := by decide +kernel
theorem dX9_flipOf_28 : decode cX9_flipOf 28 = .ok (.invokestatic 91, 3) := by decide +kernel
theorem dX9_flipOf_31 : decode cX9_flipOf 31 = .ok (.ifCond .ne 5, 3) := by decide +kernel
theorem dX9_flipOf_34 : decode cX9_flipOf 34 = .ok (.iconst (-1), 1) := by decide +kernel
theorem dX9_flipOf_35 : decode cX9_flipOf 35 = .ok (.ireturn, 1) := by decide +kernel
theorem dX9_flipOf_36 : decode cX9_flipOf 36 = .ok (.iload_n 2, 1) := by decide +kernel
theorem dX9_flipOf_37 : decode cX9_flipOf 37 = .ok (.ifCond .ne 14, 3) := by decide +kernel
theorem dX9_flipOf_40 : decode cX9_flipOf 40 = .ok (.aload_n 0, 1) := by decide +kernel
theorem dX9_flipOf_41 : decode cX9_flipOf 41 = .ok (.getfield 39, 3) := by decide +kernel
theorem dX9_flipOf_44 : decode cX9_flipOf 44 = .ok (.iconst 0, 1) := by decide +kernel
theorem dX9_flipOf_45 : decode cX9_flipOf 45 = .ok (.aaload, 1) := by decide +kernel
theorem dX9_flipOf_46 : decode cX9_flipOf 46 = .ok (.iload_n 1, 1) := by decide +kernel
theorem dX9_flipOf_47 : decode cX9_flipOf 47 = .ok (.iaload, 1) := by decide +kernel
theorem dX9_flipOf_48 : decode cX9_flipOf 48 = .ok (.goto 30, 3) := by decide +kernel
theorem dX9_flipOf_51 : decode cX9_flipOf 51 = .ok (.iload_n 2, 1) := by decide +kernel
theorem dX9_flipOf_52 : decode cX9_flipOf 52 = .ok (.iconst 1, 1) := by decide +kernel
theorem dX9_flipOf_53 : decode cX9_flipOf 53 = .ok (.if_icmp .ne 14, 3) := by decide +kernel
theorem dX9_flipOf_56 : decode cX9_flipOf 56 = .ok (.aload_n 0, 1) := by decide +kernel
theorem dX9_flipOf_57 : decode cX9_flipOf 57 = .ok (.getfield 42, 3) := by decide +kernel
theorem dX9_flipOf_60 : decode cX9_flipOf 60 = .ok (.iconst 0, 1) := by decide +kernel
theorem dX9_flipOf_61 : decode cX9_flipOf 61 = .ok (.aaload, 1) := by decide +kernel
theorem dX9_flipOf_62 : decode cX9_flipOf 62 = .ok (.iload_n 1, 1) := by decide +kernel
theorem dX9_flipOf_63 : decode cX9_flipOf 63 = .ok (.iaload, 1) := by decide +kernel
theorem dX9_flipOf_64 : decode cX9_flipOf 64 = .ok (.goto 14, 3) := by decide +kernel
theorem dX9_flipOf_67 : decode cX9_flipOf 67 = .ok (.aload_n 0, 1) := by decide +kernel
theorem dX9_flipOf_68 : decode cX9_flipOf 68 = .ok (.getfield 42, 3) := by decide +kernel
theorem dX9_flipOf_71 : decode cX9_flipOf 71 = .ok (.iconst 0, 1) := by decide +kernel
theorem dX9_flipOf_72 : decode cX9_flipOf 72 = .ok (.aaload, 1) := by decide +kernel
theorem dX9_flipOf_73 : decode cX9_flipOf 73 = .ok (.iload_n 1, 1) := by decide +kernel
theorem dX9_flipOf_74 : decode cX9_flipOf 74 = .ok (.iaload, 1) := by decide +kernel
theorem dX9_flipOf_75 : decode cX9_flipOf 75 = .ok (.invokestatic 110, 3) := by decide +kernel
theorem dX9_flipOf_78 : decode cX9_flipOf 78 = .ok (.ireturn, 1) := by decide +kernel
theorem dX9_number_0 : decode cX9_number 0 = .ok (.iload_n 1, 1) := by decide +kernel
theorem dX9_number_1 : decode cX9_number 1 = .ok (.invokestatic 144, 3) := by decide +kernel
theorem dX9_number_4 : decode cX9_number 4 = .ok (.ifCond .ne 5, 3) := by decide +kernel
theorem dX9_number_7 : decode cX9_number 7 = .ok (.iconst (-1), 1) := by decide +kernel
theorem dX9_number_8 : decode cX9_number 8 = .ok (.ireturn, 1) := by decide +kernel
theorem dX9_number_9 : decode cX9_number 9 = .ok (.aload_n 0, 1) := by decide +kernel
theorem dX9_number_10 : decode cX9_number 10 = .ok (.aload_n 0, 1) := by decide +kernel
theorem dX9_number_11 : decode cX9_number 11 = .ok (.getfield 15, 3) := by decide +kernel
theorem dX9_number_14 : decode cX9_number 14 = .ok (.iconst 0, 1) := by decide +kernel
theorem dX9_number_15 : decode cX9_number 15 = .ok (.invokevirtual 203, 3) := by decide +kernel
theorem dX9_number_18 : decode cX9_number 18 = .ok (.aload_n 0, 1) := by decide +kernel
theorem dX9_number_19 : decode cX9_number 19 = .ok (.iload_n 1, 1) := by decide +kernel
theorem dX9_number_20 : decode cX9_number 20 = .ok (.iconst 0, 1) := by decide +kernel
theorem dX9_number_21 : decode cX9_number 21 = .ok (.invokevirtual 207, 3) := by decide +kernel
theorem dX9_number_24 : decode cX9_number 24 = .ok (.ireturn, 1) := by decide +kernel
theorem dX9_flip_0 : decode cX9_flip 0 = .ok (.aload_n 0, 1) := by decide +kernel
theorem dX9_flip_1 : decode cX9_flip 1 = .ok (.aload_n 0, 1) := by decide +kernel
theorem dX9_flip_2 : decode cX9_flip 2 = .ok (.getfield 15, 3) := by decide +kernel
theorem dX9_flip_5 : decode cX9_flip 5 = .ok (.iconst 0, 1) := by decide +kernel
theorem dX9_flip_6 : decode cX9_flip 6 = .ok (.invokevirtual 203, 3) := by decide +kernel
theorem dX9_flip_9 : decode cX9_flip 9 = .ok (.iload_n 1, 1) := by decide +kernel
theorem dX9_flip_10 : decode cX9_flip 10 = .ok (.iconst 0, 1) := by decide +kernel
theorem dX9_flip_11 : decode cX9_flip 11 = .ok (.aload_n 0, 1) := by decide +kernel
theorem dX9_flip_12 : decode cX9_flip 12 = .ok (.getfield 45, 3) := by decide +kernel
theorem dX9_flip_15 : decode cX9_flip 15 = .ok (.iconst 0, 1) := by decide +kernel
theorem dX9_flip_16 : decode cX9_flip 16 = .ok (.iaload, 1) := by decide +kernel
theorem dX9_flip_17 : decode cX9_flip 17 = .ok (.iconst 1, 1) := by decide +kernel
theorem dX9_flip_18 : decode cX9_flip 18 = .ok (.isub, 1) := by decide +kernel
theorem dX9_flip_19 : decode cX9_flip 19 = .ok (.invokestatic 91, 3) := by decide +kernel
theorem dX9_flip_22 : decode cX9_flip 22 = .ok (.ifCond .ne 5, 3) := by decide +kernel
theorem dX9_flip_25 : decode cX9_flip 25 = .ok (.iconst (-1), 1) := by decide +kernel
theorem dX9_flip_26 : decode cX9_flip 26 = .ok (.ireturn, 1) := by decide +kernel
theorem dX9_flip_27 : decode cX9_flip 27 = .ok (.aload_n 0, 1) := by decide +kernel
theorem dX9_flip_28 : decode cX9_flip 28 = .ok (.invokevirtual 130, 3) := by decide +kernel
theorem dX9_flip_31 : decode cX9_flip 31 = .ok (.aload_n 0, 1) := by decide +kernel
theorem dX9_flip_32 : decode cX9_flip 32 = .ok (.aload_n 0, 1) := by decide +kernel
theorem dX9_flip_33 : decode cX9_flip 33 = .ok (.getfield 15, 3) := by decide +kernel
theorem dX9_flip_36 : decode cX9_flip 36 = .ok (.aload_n 0, 1) := by decide +kernel
theorem dX9_flip_37 : decode cX9_flip 37 = .ok (.getfield 39, 3) := by decide +kernel
theorem dX9_flip_40 : decode cX9_flip 40 = .ok (.iconst 0, 1) := by decide +kernel
theorem dX9_flip_41 : decode cX9_flip 41 = .ok (.aaload, 1) := by decide +kernel
theorem dX9_flip_42 : decode cX9_flip 42 = .ok (.iload_n 1, 1) := by decide +kernel
theorem dX9_flip_43 : decode cX9_flip 43 = .ok (.iaload, 1) := by decide +kernel
theorem dX9_flip_44 : decode cX9_flip 44 = .ok (.aload_n 0, 1) := by decide +kernel
theorem dX9_flip_45 : decode cX9_flip 45 = .ok (.getfield 42, 3) := by decide +kernel
theorem dX9_flip_48 : decode cX9_flip 48 = .ok (.iconst 0, 1) := by decide +kernel
theorem dX9_flip_49 : decode cX9_flip 49 = .ok (.aaload, 1) := by decide +kernel
theorem dX9_flip_50 : decode cX9_flip 50 = .ok (.iload_n 1, 1) := by decide +kernel
theorem dX9_flip_51 : decode cX9_flip 51 = .ok (.iaload, 1) := by decide +kernel
theorem dX9_flip_52 : decode cX9_flip 52 = .ok (.invokevirtual 210, 3) := by decide +kernel
theorem dX9_flip_55 : decode cX9_flip 55 = .ok (.aload_n 0, 1) := by decide +kernel
theorem dX9_flip_56 : decode cX9_flip 56 = .ok (.getfield 15, 3) := by decide +kernel
theorem dX9_flip_59 : decode cX9_flip 59 = .ok (.invokestatic 140, 3) := by decide +kernel
theorem dX9_flip_62 : decode cX9_flip 62 = .ok (.ireturn, 1) := by decide +kernel
theorem dX9_other_0 : decode cX9_other 0 = .ok (.iload_n 1, 1) := by decide +kernel
theorem dX9_other_1 : decode cX9_other 1 = .ok (.invokestatic 144, 3) := by decide +kernel
theorem dX9_other_4 : decode cX9_other 4 = .ok (.ifCond .ne 5, 3) := by decide +kernel
theorem dX9_other_7 : decode cX9_other 7 = .ok (.iconst (-1), 1) := by decide +kernel
theorem dX9_other_8 : decode cX9_other 8 = .ok (.ireturn, 1) := by decide +kernel
theorem dX9_other_9 : decode cX9_other 9 = .ok (.aload_n 0, 1) := by decide +kernel
theorem dX9_other_10 : decode cX9_other 10 = .ok (.aload_n 0, 1) := by decide +kernel
theorem dX9_other_11 : decode cX9_other 11 = .ok (.getfield 15, 3) := by decide +kernel
theorem dX9_other_14 : decode cX9_other 14 = .ok (.iconst 0, 1) := by decide +kernel
theorem dX9_other_15 : decode cX9_other 15 = .ok (.invokevirtual 203, 3) := by decide +kernel
theorem dX9_other_18 : decode cX9_other 18 = .ok (.aload_n 0, 1) := by decide +kernel
theorem dX9_other_19 : decode cX9_other 19 = .ok (.iload_n 1, 1) := by decide +kernel
theorem dX9_other_20 : decode cX9_other 20 = .ok (.iconst 0, 1) := by decide +kernel
theorem dX9_other_21 : decode cX9_other 21 = .ok (.invokevirtual 207, 3) := by decide +kernel
theorem dX9_other_24 : decode cX9_other 24 = .ok (.istore_n 2, 1) := by decide +kernel
theorem dX9_other_25 : decode cX9_other 25 = .ok (.iload_n 2, 1) := by decide +kernel
theorem dX9_other_26 : decode cX9_other 26 = .ok (.ifCond .ge 6, 3) := by decide +kernel
theorem dX9_other_29 : decode cX9_other 29 = .ok (.bipush (-5), 2) := by decide +kernel
theorem dX9_other_31 : decode cX9_other 31 = .ok (.ireturn, 1) := by decide +kernel
theorem dX9_other_32 : decode cX9_other 32 = .ok (.aload_n 0, 1) := by decide +kernel
theorem dX9_other_33 : decode cX9_other 33 = .ok (.getfield 42, 3) := by decide +kernel
theorem dX9_other_36 : decode cX9_other 36 = .ok (.iconst 0, 1) := by decide +kernel
theorem dX9_other_37 : decode cX9_other 37 = .ok (.aaload, 1) := by decide +kernel
theorem dX9_other_38 : decode cX9_other 38 = .ok (.iload_n 2, 1) := by decide +kernel
theorem dX9_other_39 : decode cX9_other 39 = .ok (.iaload, 1) := by decide +kernel
theorem dX9_other_40 : decode cX9_other 40 = .ok (.istore_n 3, 1) := by decide +kernel
theorem dX9_other_41 : decode cX9_other 41 = .ok (.aload_n 0, 1) := by decide +kernel
theorem dX9_other_42 : decode cX9_other 42 = .ok (.getfield 15, 3) := by decide +kernel
theorem dX9_other_45 : decode cX9_other 45 = .ok (.aload_n 0, 1) := by decide +kernel
theorem dX9_other_46 : decode cX9_other 46 = .ok (.getfield 48, 3) := by decide +kernel
theorem dX9_other_49 : decode cX9_other 49 = .ok (.iconst 0, 1) := by decide +kernel
theorem dX9_other_50 : decode cX9_other 50 = .ok (.aaload, 1) := by decide +kernel
theorem dX9_other_51 : decode cX9_other 51 = .ok (.invokestatic 123, 3) := by decide +kernel
theorem dX9_other_54 : decode cX9_other 54 = .ok (.aload_n 0, 1) := by decide +kernel
theorem dX9_other_55 : decode cX9_other 55 = .ok (.aload_n 0, 1) := by decide +kernel
theorem dX9_other_56 : decode cX9_other 56 = .ok (.getfield 48, 3) := by decide +kernel
theorem dX9_other_59 : decode cX9_other 59 = .ok (.iconst 0, 1) := by decide +kernel
theorem dX9_other_60 : decode cX9_other 60 = .ok (.aaload, 1) := by decide +kernel
theorem dX9_other_61 : decode cX9_other 61 = .ok (.iload_n 1, 1) := by decide +kernel
theorem dX9_other_62 : decode cX9_other 62 = .ok (.iload_n 3, 1) := by decide +kernel
theorem dX9_other_63 : decode cX9_other 63 = .ok (.invokevirtual 210, 3) := by decide +kernel
theorem dX9_other_66 : decode cX9_other 66 = .ok (.aload_n 0, 1) := by decide +kernel
theorem dX9_other_67 : decode cX9_other 67 = .ok (.aload_n 0, 1) := by decide +kernel
theorem dX9_other_68 : decode cX9_other 68 = .ok (.getfield 48, 3) := by decide +kernel
theorem dX9_other_71 : decode cX9_other 71 = .ok (.iconst 0, 1) := by decide +kernel
theorem dX9_other_72 : decode cX9_other 72 = .ok (.aaload, 1) := by decide +kernel
theorem dX9_other_73 : decode cX9_other 73 = .ok (.iconst 0, 1) := by decide +kernel
theorem dX9_other_74 : decode cX9_other 74 = .ok (.invokevirtual 203, 3) := by decide +kernel
theorem dX9_other_77 : decode cX9_other 77 = .ok (.aload_n 0, 1) := by decide +kernel
theorem dX9_other_78 : decode cX9_other 78 = .ok (.iload_n 3, 1) := by decide +kernel
theorem dX9_other_79 : decode cX9_other 79 = .ok (.iconst 0, 1) := by decide +kernel
theorem dX9_other_80 : decode cX9_other 80 = .ok (.invokevirtual 207, 3) := by decide +kernel
theorem dX9_other_83 : decode cX9_other 83 = .ok (.istore 4, 2) := by decide +kernel
theorem dX9_other_85 : decode cX9_other 85 = .ok (.iload 4, 2) := by decide +kernel
theorem dX9_other_87 : decode cX9_other 87 = .ok (.ifCond .lt 21, 3) := by decide +kernel
theorem dX9_other_90 : decode cX9_other 90 = .ok (.aload_n 0, 1) := by decide +kernel
theorem dX9_other_91 : decode cX9_other 91 = .ok (.getfield 42, 3) := by decide +kernel
theorem dX9_other_94 : decode cX9_other 94 = .ok (.iconst 0, 1) := by decide +kernel
theorem dX9_other_95 : decode cX9_other 95 = .ok (.aaload, 1) := by decide +kernel
theorem dX9_other_96 : decode cX9_other 96 = .ok (.iload 4, 2) := by decide +kernel
theorem dX9_other_98 : decode cX9_other 98 = .ok (.iaload, 1) := by decide +kernel
theorem dX9_other_99 : decode cX9_other 99 = .ok (.iload_n 1, 1) := by decide +kernel
theorem dX9_other_100 : decode cX9_other 100 = .ok (.if_icmp .ne 8, 3) := by decide +kernel
theorem dX9_other_103 : decode cX9_other 103 = .ok (.iload 4, 2) := by decide +kernel
theorem dX9_other_105 : decode cX9_other 105 = .ok (.goto 5, 3) := by decide +kernel
theorem dX9_other_108 : decode cX9_other 108 = .ok (.bipush (-5), 2) := by decide +kernel
theorem dX9_other_110 : decode cX9_other 110 = .ok (.ireturn, 1) := by decide +kernel
theorem dX9_back_0 : decode cX9_back 0 = .ok (.aload_n 0, 1) := by decide +kernel
theorem dX9_back_1 : decode cX9_back 1 = .ok (.getfield 120, 3) := by decide +kernel
theorem dX9_back_4 : decode cX9_back 4 = .ok (.ifCond .ne 6, 3) := by decide +kernel
theorem dX9_back_7 : decode cX9_back 7 = .ok (.bipush (-3), 2) := by decide +kernel
theorem dX9_back_9 : decode cX9_back 9 = .ok (.ireturn, 1) := by decide +kernel
theorem dX9_back_10 : decode cX9_back 10 = .ok (.aload_n 0, 1) := by decide +kernel
theorem dX9_back_11 : decode cX9_back 11 = .ok (.dup, 1) := by decide +kernel
theorem dX9_back_12 : decode cX9_back 12 = .ok (.getfield 120, 3) := by decide +kernel
theorem dX9_back_15 : decode cX9_back 15 = .ok (.iconst 1, 1) := by decide +kernel
theorem dX9_back_16 : decode cX9_back 16 = .ok (.isub, 1) := by decide +kernel
theorem dX9_back_17 : decode cX9_back 17 = .ok (.putfield 120, 3) := by decide +kernel
theorem dX9_back_20 : decode cX9_back 20 = .ok (.aload_n 0, 1) := by decide +kernel
theorem dX9_back_21 : decode cX9_back 21 = .ok (.getfield 28, 3) := by decide +kernel
theorem dX9_back_24 : decode cX9_back 24 = .ok (.aload_n 0, 1) := by decide +kernel
theorem dX9_back_25 : decode cX9_back 25 = .ok (.getfield 120, 3) := by decide +kernel
theorem dX9_back_28 : decode cX9_back 28 = .ok (.aaload, 1) := by decide +kernel
theorem dX9_back_29 : decode cX9_back 29 = .ok (.aload_n 0, 1) := by decide +kernel
theorem dX9_back_30 : decode cX9_back 30 = .ok (.getfield 15, 3) := by decide +kernel
theorem dX9_back_33 : decode cX9_back 33 = .ok (.invokestatic 123, 3) := by decide +kernel
theorem dX9_back_36 : decode cX9_back 36 = .ok (.aload_n 0, 1) := by decide +kernel
theorem dX9_back_37 : decode cX9_back 37 = .ok (.getfield 15, 3) := by decide +kernel
theorem dX9_back_40 : decode cX9_back 40 = .ok (.invokestatic 140, 3) := by decide +kernel
theorem dX9_back_43 : decode cX9_back 43 = .ok (.ireturn, 1) := by decide +kernel
theorem dX9_isKept_0 : decode cX9_isKept 0 = .ok (.iload_n 1, 1) := by decide +kernel
theorem dX9_isKept_1 : decode cX9_isKept 1 = .ok (.iconst 0, 1) := by decide +kernel
theorem dX9_isKept_2 : decode cX9_isKept 2 = .ok (.aload_n 0, 1) := by decide +kernel
theorem dX9_isKept_3 : decode cX9_isKept 3 = .ok (.getfield 214, 3) := by decide +kernel
theorem dX9_isKept_6 : decode cX9_isKept 6 = .ok (.iconst 1, 1) := by decide +kernel
theorem dX9_isKept_7 : decode cX9_isKept 7 = .ok (.isub, 1) := by decide +kernel
theorem dX9_isKept_8 : decode cX9_isKept 8 = .ok (.invokestatic 91, 3) := by decide +kernel
theorem dX9_isKept_11 : decode cX9_isKept 11 = .ok (.ireturn, 1) := by decide +kernel
theorem dX9_keep_0 : decode cX9_keep 0 = .ok (.aload_n 0, 1) := by decide +kernel
theorem dX9_keep_1 : decode cX9_keep 1 = .ok (.getfield 214, 3) := by decide +kernel
theorem dX9_keep_4 : decode cX9_keep 4 = .ok (.iconst 4, 1) := by decide +kernel
theorem dX9_keep_5 : decode cX9_keep 5 = .ok (.if_icmp .ne 6, 3) := by decide +kernel
theorem dX9_keep_8 : decode cX9_keep 8 = .ok (.bipush (-4), 2) := by decide +kernel
theorem dX9_keep_10 : decode cX9_keep 10 = .ok (.ireturn, 1) := by decide +kernel
theorem dX9_keep_11 : decode cX9_keep 11 = .ok (.aload_n 0, 1) := by decide +kernel
theorem dX9_keep_12 : decode cX9_keep 12 = .ok (.getfield 15, 3) := by decide +kernel
theorem dX9_keep_15 : decode cX9_keep 15 = .ok (.aload_n 0, 1) := by decide +kernel
theorem dX9_keep_16 : decode cX9_keep 16 = .ok (.getfield 51, 3) := by decide +kernel
theorem dX9_keep_19 : decode cX9_keep 19 = .ok (.aload_n 0, 1) := by decide +kernel
theorem dX9_keep_20 : decode cX9_keep 20 = .ok (.getfield 214, 3) := by decide +kernel
theorem dX9_keep_23 : decode cX9_keep 23 = .ok (.aaload, 1) := by decide +kernel
theorem dX9_keep_24 : decode cX9_keep 24 = .ok (.invokestatic 123, 3) := by decide +kernel
theorem dX9_keep_27 : decode cX9_keep 27 = .ok (.aload_n 0, 1) := by decide +kernel
theorem dX9_keep_28 : decode cX9_keep 28 = .ok (.getfield 54, 3) := by decide +kernel
theorem dX9_keep_31 : decode cX9_keep 31 = .ok (.aload_n 0, 1) := by decide +kernel
theorem dX9_keep_32 : decode cX9_keep 32 = .ok (.getfield 214, 3) := by decide +kernel
theorem dX9_keep_35 : decode cX9_keep 35 = .ok (.aload_n 0, 1) := by decide +kernel
theorem dX9_keep_36 : decode cX9_keep 36 = .ok (.getfield 9, 3) := by decide +kernel
theorem dX9_keep_39 : decode cX9_keep 39 = .ok (.iastore, 1) := by decide +kernel
theorem dX9_keep_40 : decode cX9_keep 40 = .ok (.aload_n 0, 1) := by decide +kernel
theorem dX9_keep_41 : decode cX9_keep 41 = .ok (.dup, 1) := by decide +kernel
theorem dX9_keep_42 : decode cX9_keep 42 = .ok (.getfield 214, 3) := by decide +kernel
theorem dX9_keep_45 : decode cX9_keep 45 = .ok (.iconst 1, 1) := by decide +kernel
theorem dX9_keep_46 : decode cX9_keep 46 = .ok (.iadd, 1) := by decide +kernel
theorem dX9_keep_47 : decode cX9_keep 47 = .ok (.putfield 214, 3) := by decide +kernel
theorem dX9_keep_50 : decode cX9_keep 50 = .ok (.aload_n 0, 1) := by decide +kernel
theorem dX9_keep_51 : decode cX9_keep 51 = .ok (.getfield 214, 3) := by decide +kernel
theorem dX9_keep_54 : decode cX9_keep 54 = .ok (.iconst 1, 1) := by decide +kernel
theorem dX9_keep_55 : decode cX9_keep 55 = .ok (.isub, 1) := by decide +kernel
theorem dX9_keep_56 : decode cX9_keep 56 = .ok (.ireturn, 1) := by decide +kernel
theorem dX9_take_0 : decode cX9_take 0 = .ok (.aload_n 0, 1) := by decide +kernel
theorem dX9_take_1 : decode cX9_take 1 = .ok (.iload_n 1, 1) := by decide +kernel
theorem dX9_take_2 : decode cX9_take 2 = .ok (.invokevirtual 217, 3) := by decide +kernel
theorem dX9_take_5 : decode cX9_take 5 = .ok (.ifCond .ne 5, 3) := by decide +kernel
theorem dX9_take_8 : decode cX9_take 8 = .ok (.iconst (-1), 1) := by decide +kernel
theorem dX9_take_9 : decode cX9_take 9 = .ok (.ireturn, 1) := by decide +kernel
theorem dX9_take_10 : decode cX9_take 10 = .ok (.aload_n 0, 1) := by decide +kernel
theorem dX9_take_11 : decode cX9_take 11 = .ok (.getfield 51, 3) := by decide +kernel
theorem dX9_take_14 : decode cX9_take 14 = .ok (.iload_n 1, 1) := by decide +kernel
theorem dX9_take_15 : decode cX9_take 15 = .ok (.aaload, 1) := by decide +kernel
theorem dX9_take_16 : decode cX9_take 16 = .ok (.aload_n 0, 1) := by decide +kernel
theorem dX9_take_17 : decode cX9_take 17 = .ok (.getfield 15, 3) := by decide +kernel
theorem dX9_take_20 : decode cX9_take 20 = .ok (.invokestatic 123, 3) := by decide +kernel
theorem dX9_take_23 : decode cX9_take 23 = .ok (.aload_n 0, 1) := by decide +kernel
theorem dX9_take_24 : decode cX9_take 24 = .ok (.aload_n 0, 1) := by decide +kernel
theorem dX9_take_25 : decode cX9_take 25 = .ok (.getfield 54, 3) := by decide +kernel
theorem dX9_take_28 : decode cX9_take 28 = .ok (.iload_n 1, 1) := by decide +kernel
theorem dX9_take_29 : decode cX9_take 29 = .ok (.iaload, 1) := by decide +kernel
theorem dX9_take_30 : decode cX9_take 30 = .ok (.putfield 9, 3) := by decide +kernel
theorem dX9_take_33 : decode cX9_take 33 = .ok (.aload_n 0, 1) := by decide +kernel
theorem dX9_take_34 : decode cX9_take 34 = .ok (.iconst 0, 1) := by decide +kernel
theorem dX9_take_35 : decode cX9_take 35 = .ok (.putfield 120, 3) := by decide +kernel
theorem dX9_take_38 : decode cX9_take 38 = .ok (.aload_n 0, 1) := by decide +kernel
theorem dX9_take_39 : decode cX9_take 39 = .ok (.getfield 15, 3) := by decide +kernel
theorem dX9_take_42 : decode cX9_take 42 = .ok (.invokestatic 140, 3) := by decide +kernel
theorem dX9_take_45 : decode cX9_take 45 = .ok (.ireturn, 1) := by decide +kernel
theorem dX9_kept_0 : decode cX9_kept 0 = .ok (.aload_n 0, 1) := by decide +kernel
theorem dX9_kept_1 : decode cX9_kept 1 = .ok (.iload_n 1, 1) := by decide +kernel
theorem dX9_kept_2 : decode cX9_kept 2 = .ok (.invokevirtual 217, 3) := by decide +kernel
theorem dX9_kept_5 : decode cX9_kept 5 = .ok (.ifCond .eq 12, 3) := by decide +kernel
theorem dX9_kept_8 : decode cX9_kept 8 = .ok (.iload_n 2, 1) := by decide +kernel
theorem dX9_kept_9 : decode cX9_kept 9 = .ok (.iconst 0, 1) := by decide +kernel
theorem dX9_kept_10 : decode cX9_kept 10 = .ok (.iconst 3, 1) := by decide +kernel
theorem dX9_kept_11 : decode cX9_kept 11 = .ok (.invokestatic 91, 3) := by decide +kernel
theorem dX9_kept_14 : decode cX9_kept 14 = .ok (.ifCond .ne 5, 3) := by decide +kernel
theorem dX9_kept_17 : decode cX9_kept 17 = .ok (.iconst (-1), 1) := by decide +kernel
theorem dX9_kept_18 : decode cX9_kept 18 = .ok (.ireturn, 1) := by decide +kernel
theorem dX9_kept_19 : decode cX9_kept 19 = .ok (.aload_n 0, 1) := by decide +kernel
theorem dX9_kept_20 : decode cX9_kept 20 = .ok (.aload_n 0, 1) := by decide +kernel
theorem dX9_kept_21 : decode cX9_kept 21 = .ok (.getfield 51, 3) := by decide +kernel
theorem dX9_kept_24 : decode cX9_kept 24 = .ok (.iload_n 1, 1) := by decide +kernel
theorem dX9_kept_25 : decode cX9_kept 25 = .ok (.aaload, 1) := by decide +kernel
theorem dX9_kept_26 : decode cX9_kept 26 = .ok (.invokevirtual 150, 3) := by decide +kernel
theorem dX9_kept_29 : decode cX9_kept 29 = .ok (.iload_n 2, 1) := by decide +kernel
theorem dX9_kept_30 : decode cX9_kept 30 = .ok (.tableswitch 51 0 2 #[26, 33, 43], 26) := by decide +kernel
theorem dX9_kept_56 : decode cX9_kept 56 = .ok (.aload_n 0, 1) := by decide +kernel
theorem dX9_kept_57 : decode cX9_kept 57 = .ok (.getfield 54, 3) := by decide +kernel
theorem dX9_kept_60 : decode cX9_kept 60 = .ok (.iload_n 1, 1) := by decide +kernel
theorem dX9_kept_61 : decode cX9_kept 61 = .ok (.iaload, 1) := by decide +kernel
theorem dX9_kept_62 : decode cX9_kept 62 = .ok (.ireturn, 1) := by decide +kernel
theorem dX9_kept_63 : decode cX9_kept 63 = .ok (.aload_n 0, 1) := by decide +kernel
theorem dX9_kept_64 : decode cX9_kept 64 = .ok (.getfield 51, 3) := by decide +kernel
theorem dX9_kept_67 : decode cX9_kept 67 = .ok (.iload_n 1, 1) := by decide +kernel
theorem dX9_kept_68 : decode cX9_kept 68 = .ok (.aaload, 1) := by decide +kernel
theorem dX9_kept_69 : decode cX9_kept 69 = .ok (.invokestatic 140, 3) := by decide +kernel
theorem dX9_kept_72 : decode cX9_kept 72 = .ok (.ireturn, 1) := by decide +kernel
theorem dX9_kept_73 : decode cX9_kept 73 = .ok (.bipush 100, 2) := by decide +kernel
theorem dX9_kept_75 : decode cX9_kept 75 = .ok (.aload_n 0, 1) := by decide +kernel
theorem dX9_kept_76 : decode cX9_kept 76 = .ok (.invokevirtual 161, 3) := by decide +kernel
theorem dX9_kept_79 : decode cX9_kept 79 = .ok (.iadd, 1) := by decide +kernel
theorem dX9_kept_80 : decode cX9_kept 80 = .ok (.ireturn, 1) := by decide +kernel
theorem dX9_kept_81 : decode cX9_kept 81 = .ok (.aload_n 0, 1) := by decide +kernel
theorem dX9_kept_82 : decode cX9_kept 82 = .ok (.aload_n 0, 1) := by decide +kernel
theorem dX9_kept_83 : decode cX9_kept 83 = .ok (.getfield 54, 3) := by decide +kernel
theorem dX9_kept_86 : decode cX9_kept 86 = .ok (.iload_n 1, 1) := by decide +kernel
theorem dX9_kept_87 : decode cX9_kept 87 = .ok (.iaload, 1) := by decide +kernel
theorem dX9_kept_88 : decode cX9_kept 88 = .ok (.invokevirtual 154, 3) := by decide +kernel
theorem dX9_kept_91 : decode cX9_kept 91 = .ok (.ireturn, 1) := by decide +kernel
theorem dX9_areSame_0 : decode cX9_areSame 0 = .ok (.iconst 1, 1) := by decide +kernel
theorem dX9_areSame_1 : decode cX9_areSame 1 = .ok (.istore_n 2, 1) := by decide +kernel
theorem dX9_areSame_2 : decode cX9_areSame 2 = .ok (.iload_n 2, 1) := by decide +kernel
theorem dX9_areSame_3 : decode cX9_areSame 3 = .ok (.sipush 256, 3) := by decide +kernel
theorem dX9_areSame_6 : decode cX9_areSame 6 = .ok (.if_icmp .ge 20, 3) := by decide +kernel
theorem dX9_areSame_9 : decode cX9_areSame 9 = .ok (.aload_n 0, 1) := by decide +kernel
theorem dX9_areSame_10 : decode cX9_areSame 10 = .ok (.iload_n 2, 1) := by decide +kernel
theorem dX9_areSame_11 : decode cX9_areSame 11 = .ok (.baload, 1) := by decide +kernel
theorem dX9_areSame_12 : decode cX9_areSame 12 = .ok (.aload_n 1, 1) := by decide +kernel
theorem dX9_areSame_13 : decode cX9_areSame 13 = .ok (.iload_n 2, 1) := by decide +kernel
theorem dX9_areSame_14 : decode cX9_areSame 14 = .ok (.baload, 1) := by decide +kernel
theorem dX9_areSame_15 : decode cX9_areSame 15 = .ok (.if_icmp .eq 5, 3) := by decide +kernel
theorem dX9_areSame_18 : decode cX9_areSame 18 = .ok (.iconst 0, 1) := by decide +kernel
theorem dX9_areSame_19 : decode cX9_areSame 19 = .ok (.ireturn, 1) := by decide +kernel
theorem dX9_areSame_20 : decode cX9_areSame 20 = .ok (.iinc 2 1, 3) := by decide +kernel
theorem dX9_areSame_23 : decode cX9_areSame 23 = .ok (.goto (-21), 3) := by decide +kernel
theorem dX9_areSame_26 : decode cX9_areSame 26 = .ok (.iconst 1, 1) := by decide +kernel
theorem dX9_areSame_27 : decode cX9_areSame 27 = .ok (.ireturn, 1) := by decide +kernel
theorem dX9_leads_0 : decode cX9_leads 0 = .ok (.iload_n 1, 1) := by decide +kernel
theorem dX9_leads_1 : decode cX9_leads 1 = .ok (.iload_n 2, 1) := by decide +kernel
theorem dX9_leads_2 : decode cX9_leads 2 = .ok (.if_icmp .ne 14, 3) := by decide +kernel
theorem dX9_leads_5 : decode cX9_leads 5 = .ok (.aload_n 0, 1) := by decide +kernel
theorem dX9_leads_6 : decode cX9_leads 6 = .ok (.getfield 48, 3) := by decide +kernel
theorem dX9_leads_9 : decode cX9_leads 9 = .ok (.iload_n 1, 1) := by decide +kernel
theorem dX9_leads_10 : decode cX9_leads 10 = .ok (.aaload, 1) := by decide +kernel
theorem dX9_leads_11 : decode cX9_leads 11 = .ok (.aload_n 3, 1) := by decide +kernel
theorem dX9_leads_12 : decode cX9_leads 12 = .ok (.invokestatic 220, 3) := by decide +kernel
theorem dX9_leads_15 : decode cX9_leads 15 = .ok (.ireturn, 1) := by decide +kernel
theorem dX9_leads_16 : decode cX9_leads 16 = .ok (.aload_n 0, 1) := by decide +kernel
theorem dX9_leads_17 : decode cX9_leads 17 = .ok (.aload_n 0, 1) := by decide +kernel
theorem dX9_leads_18 : decode cX9_leads 18 = .ok (.getfield 48, 3) := by decide +kernel
theorem dX9_leads_21 : decode cX9_leads 21 = .ok (.iload_n 1, 1) := by decide +kernel
theorem dX9_leads_22 : decode cX9_leads 22 = .ok (.aaload, 1) := by decide +kernel
theorem dX9_leads_23 : decode cX9_leads 23 = .ok (.iload_n 1, 1) := by decide +kernel
theorem dX9_leads_24 : decode cX9_leads 24 = .ok (.invokevirtual 203, 3) := by decide +kernel
theorem dX9_leads_27 : decode cX9_leads 27 = .ok (.iconst 0, 1) := by decide +kernel
theorem dX9_leads_28 : decode cX9_leads 28 = .ok (.istore 5, 2) := by decide +kernel
theorem dX9_leads_30 : decode cX9_leads 30 = .ok (.iload 5, 2) := by decide +kernel
theorem dX9_leads_32 : decode cX9_leads 32 = .ok (.aload_n 0, 1) := by decide +kernel
theorem dX9_leads_33 : decode cX9_leads 33 = .ok (.getfield 45, 3) := by decide +kernel
theorem dX9_leads_36 : decode cX9_leads 36 = .ok (.iload_n 1, 1) := by decide +kernel
theorem dX9_leads_37 : decode cX9_leads 37 = .ok (.iaload, 1) := by decide +kernel
theorem dX9_leads_38 : decode cX9_leads 38 = .ok (.if_icmp .ge 100, 3) := by decide +kernel
theorem dX9_leads_41 : decode cX9_leads 41 = .ok (.aload_n 0, 1) := by decide +kernel
theorem dX9_leads_42 : decode cX9_leads 42 = .ok (.getfield 42, 3) := by decide +kernel
theorem dX9_leads_45 : decode cX9_leads 45 = .ok (.iload_n 1, 1) := by decide +kernel
theorem dX9_leads_46 : decode cX9_leads 46 = .ok (.aaload, 1) := by decide +kernel
theorem dX9_leads_47 : decode cX9_leads 47 = .ok (.iload 5, 2) := by decide +kernel
theorem dX9_leads_49 : decode cX9_leads 49 = .ok (.iaload, 1) := by decide +kernel
theorem dX9_leads_50 : decode cX9_leads 50 = .ok (.invokestatic 110, 3) := by decide +kernel
theorem dX9_leads_53 : decode cX9_leads 53 = .ok (.iload 4, 2) := by decide +kernel
theorem dX9_leads_55 : decode cX9_leads 55 = .ok (.if_icmp .ge 6, 3) := by decide +kernel
theorem dX9_leads_58 : decode cX9_leads 58 = .ok (.goto 74, 3) := by decide +kernel
theorem dX9_leads_61 : decode cX9_leads 61 = .ok (.aload_n 0, 1) := by decide +kernel
theorem dX9_leads_62 : decode cX9_leads 62 = .ok (.getfield 57, 3) := by decide +kernel
theorem dX9_leads_65 : decode cX9_leads 65 = .ok (.iload_n 1, 1) := by decide +kernel
theorem dX9_leads_66 : decode cX9_leads 66 = .ok (.iload 5, 2) := by decide +kernel
theorem dX9_leads_68 : decode cX9_leads 68 = .ok (.iastore, 1) := by decide +kernel
theorem dX9_leads_69 : decode cX9_leads 69 = .ok (.aload_n 0, 1) := by decide +kernel
theorem dX9_leads_70 : decode cX9_leads 70 = .ok (.getfield 48, 3) := by decide +kernel
theorem dX9_leads_73 : decode cX9_leads 73 = .ok (.iload_n 1, 1) := by decide +kernel
theorem dX9_leads_74 : decode cX9_leads 74 = .ok (.aaload, 1) := by decide +kernel
theorem dX9_leads_75 : decode cX9_leads 75 = .ok (.aload_n 0, 1) := by decide +kernel
theorem dX9_leads_76 : decode cX9_leads 76 = .ok (.getfield 48, 3) := by decide +kernel
theorem dX9_leads_79 : decode cX9_leads 79 = .ok (.iload_n 1, 1) := by decide +kernel
theorem dX9_leads_80 : decode cX9_leads 80 = .ok (.iconst 1, 1) := by decide +kernel
theorem dX9_leads_81 : decode cX9_leads 81 = .ok (.iadd, 1) := by decide +kernel
theorem dX9_leads_82 : decode cX9_leads 82 = .ok (.aaload, 1) := by decide +kernel
theorem dX9_leads_83 : decode cX9_leads 83 = .ok (.invokestatic 123, 3) := by decide +kernel
theorem dX9_leads_86 : decode cX9_leads 86 = .ok (.aload_n 0, 1) := by decide +kernel
theorem dX9_leads_87 : decode cX9_leads 87 = .ok (.aload_n 0, 1) := by decide +kernel
theorem dX9_leads_88 : decode cX9_leads 88 = .ok (.getfield 48, 3) := by decide +kernel
theorem dX9_leads_91 : decode cX9_leads 91 = .ok (.iload_n 1, 1) := by decide +kernel
theorem dX9_leads_92 : decode cX9_leads 92 = .ok (.iconst 1, 1) := by decide +kernel
theorem dX9_leads_93 : decode cX9_leads 93 = .ok (.iadd, 1) := by decide +kernel
theorem dX9_leads_94 : decode cX9_leads 94 = .ok (.aaload, 1) := by decide +kernel
theorem dX9_leads_95 : decode cX9_leads 95 = .ok (.aload_n 0, 1) := by decide +kernel
theorem dX9_leads_96 : decode cX9_leads 96 = .ok (.getfield 39, 3) := by decide +kernel
theorem dX9_leads_99 : decode cX9_leads 99 = .ok (.iload_n 1, 1) := by decide +kernel
theorem dX9_leads_100 : decode cX9_leads 100 = .ok (.aaload, 1) := by decide +kernel
theorem dX9_leads_101 : decode cX9_leads 101 = .ok (.iload 5, 2) := by decide +kernel
theorem dX9_leads_103 : decode cX9_leads 103 = .ok (.iaload, 1) := by decide +kernel
theorem dX9_leads_104 : decode cX9_leads 104 = .ok (.aload_n 0, 1) := by decide +kernel
theorem dX9_leads_105 : decode cX9_leads 105 = .ok (.getfield 42, 3) := by decide +kernel
theorem dX9_leads_108 : decode cX9_leads 108 = .ok (.iload_n 1, 1) := by decide +kernel
theorem dX9_leads_109 : decode cX9_leads 109 = .ok (.aaload, 1) := by decide +kernel
theorem dX9_leads_110 : decode cX9_leads 110 = .ok (.iload 5, 2) := by decide +kernel
theorem dX9_leads_112 : decode cX9_leads 112 = .ok (.iaload, 1) := by decide +kernel
theorem dX9_leads_113 : decode cX9_leads 113 = .ok (.invokevirtual 210, 3) := by decide +kernel
theorem dX9_leads_116 : decode cX9_leads 116 = .ok (.aload_n 0, 1) := by decide +kernel
theorem dX9_leads_117 : decode cX9_leads 117 = .ok (.iload_n 1, 1) := by decide +kernel
theorem dX9_leads_118 : decode cX9_leads 118 = .ok (.iconst 1, 1) := by decide +kernel
theorem dX9_leads_119 : decode cX9_leads 119 = .ok (.iadd, 1) := by decide +kernel
theorem dX9_leads_120 : decode cX9_leads 120 = .ok (.iload_n 2, 1) := by decide +kernel
theorem dX9_leads_121 : decode cX9_leads 121 = .ok (.aload_n 3, 1) := by decide +kernel
theorem dX9_leads_122 : decode cX9_leads 122 = .ok (.iload 4, 2) := by decide +kernel
theorem dX9_leads_124 : decode cX9_leads 124 = .ok (.invokevirtual 224, 3) := by decide +kernel
theorem dX9_leads_127 : decode cX9_leads 127 = .ok (.ifCond .eq 5, 3) := by decide +kernel
theorem dX9_leads_130 : decode cX9_leads 130 = .ok (.iconst 1, 1) := by decide +kernel
theorem dX9_leads_131 : decode cX9_leads 131 = .ok (.ireturn, 1) := by decide +kernel
theorem dX9_leads_132 : decode cX9_leads 132 = .ok (.iinc 5 1, 3) := by decide +kernel
theorem dX9_leads_135 : decode cX9_leads 135 = .ok (.goto (-105), 3) := by decide +kernel
theorem dX9_leads_138 : decode cX9_leads 138 = .ok (.iconst 0, 1) := by decide +kernel
theorem dX9_leads_139 : decode cX9_leads 139 = .ok (.ireturn, 1) := by decide +kernel
theorem dX9_chain_0 : decode cX9_chain 0 = .ok (.aload_n 0, 1) := by decide +kernel
theorem dX9_chain_1 : decode cX9_chain 1 = .ok (.iload_n 1, 1) := by decide +kernel
theorem dX9_chain_2 : decode cX9_chain 2 = .ok (.invokevirtual 217, 3) := by decide +kernel
theorem dX9_chain_5 : decode cX9_chain 5 = .ok (.ifCond .eq 8, 3) := by decide +kernel
theorem dX9_chain_8 : decode cX9_chain 8 = .ok (.iload_n 3, 1) := by decide +kernel
theorem dX9_chain_9 : decode cX9_chain 9 = .ok (.iconst (-1), 1) := by decide +kernel
theorem dX9_chain_10 : decode cX9_chain 10 = .ok (.if_icmp .ge 5, 3) := by decide +kernel
theorem dX9_chain_13 : decode cX9_chain 13 = .ok (.iconst (-1), 1) := by decide +kernel
theorem dX9_chain_14 : decode cX9_chain 14 = .ok (.ireturn, 1) := by decide +kernel
theorem dX9_chain_15 : decode cX9_chain 15 = .ok (.iload_n 2, 1) := by decide +kernel
theorem dX9_chain_16 : decode cX9_chain 16 = .ok (.iconst 1, 1) := by decide +kernel
theorem dX9_chain_17 : decode cX9_chain 17 = .ok (.iconst 2, 1) := by decide +kernel
theorem dX9_chain_18 : decode cX9_chain 18 = .ok (.invokestatic 91, 3) := by decide +kernel
theorem dX9_chain_21 : decode cX9_chain 21 = .ok (.ifCond .ne 6, 3) := by decide +kernel
theorem dX9_chain_24 : decode cX9_chain 24 = .ok (.bipush (-2), 2) := by decide +kernel
theorem dX9_chain_26 : decode cX9_chain 26 = .ok (.ireturn, 1) := by decide +kernel
theorem dX9_chain_27 : decode cX9_chain 27 = .ok (.aload_n 0, 1) := by decide +kernel
theorem dX9_chain_28 : decode cX9_chain 28 = .ok (.getfield 54, 3) := by decide +kernel
theorem dX9_chain_31 : decode cX9_chain 31 = .ok (.iload_n 1, 1) := by decide +kernel
theorem dX9_chain_32 : decode cX9_chain 32 = .ok (.iaload, 1) := by decide +kernel
theorem dX9_chain_33 : decode cX9_chain 33 = .ok (.aload_n 0, 1) := by decide +kernel
theorem dX9_chain_34 : decode cX9_chain 34 = .ok (.getfield 9, 3) := by decide +kernel
theorem dX9_chain_37 : decode cX9_chain 37 = .ok (.if_icmp .eq 6, 3) := by decide +kernel
theorem dX9_chain_40 : decode cX9_chain 40 = .ok (.bipush (-3), 2) := by decide +kernel
theorem dX9_chain_42 : decode cX9_chain 42 = .ok (.ireturn, 1) := by decide +kernel
theorem dX9_chain_43 : decode cX9_chain 43 = .ok (.iconst 0, 1) := by decide +kernel
theorem dX9_chain_44 : decode cX9_chain 44 = .ok (.istore 4, 2) := by decide +kernel
theorem dX9_chain_46 : decode cX9_chain 46 = .ok (.aload_n 0, 1) := by decide +kernel
theorem dX9_chain_47 : decode cX9_chain 47 = .ok (.getfield 15, 3) := by decide +kernel
theorem dX9_chain_50 : decode cX9_chain 50 = .ok (.aload_n 0, 1) := by decide +kernel
theorem dX9_chain_51 : decode cX9_chain 51 = .ok (.getfield 48, 3) := by decide +kernel
theorem dX9_chain_54 : decode cX9_chain 54 = .ok (.iconst 0, 1) := by decide +kernel
theorem dX9_chain_55 : decode cX9_chain 55 = .ok (.aaload, 1) := by decide +kernel
theorem dX9_chain_56 : decode cX9_chain 56 = .ok (.invokestatic 123, 3) := by decide +kernel
theorem dX9_chain_59 : decode cX9_chain 59 = .ok (.iload 4, 2) := by decide +kernel
theorem dX9_chain_61 : decode cX9_chain 61 = .ok (.iconst 3, 1) := by decide +kernel
theorem dX9_chain_62 : decode cX9_chain 62 = .ok (.if_icmp .gt 26, 3) := by decide +kernel
theorem dX9_chain_65 : decode cX9_chain 65 = .ok (.aload_n 0, 1) := by decide +kernel
theorem dX9_chain_66 : decode cX9_chain 66 = .ok (.iconst 0, 1) := by decide +kernel
theorem dX9_chain_67 : decode cX9_chain 67 = .ok (.iload 4, 2) := by decide +kernel
theorem dX9_chain_69 : decode cX9_chain 69 = .ok (.aload_n 0, 1) := by decide +kernel
theorem dX9_chain_70 : decode cX9_chain 70 = .ok (.getfield 51, 3) := by decide +kernel
theorem dX9_chain_73 : decode cX9_chain 73 = .ok (.iload_n 1, 1) := by decide +kernel
theorem dX9_chain_74 : decode cX9_chain 74 = .ok (.aaload, 1) := by decide +kernel
theorem dX9_chain_75 : decode cX9_chain 75 = .ok (.iload_n 2, 1) := by decide +kernel
theorem dX9_chain_76 : decode cX9_chain 76 = .ok (.invokevirtual 224, 3) := by decide +kernel
theorem dX9_chain_79 : decode cX9_chain 79 = .ok (.ifCond .ne 9, 3) := by decide +kernel
theorem dX9_chain_82 : decode cX9_chain 82 = .ok (.iinc 4 1, 3) := by decide +kernel
theorem dX9_chain_85 : decode cX9_chain 85 = .ok (.goto (-26), 3) := by decide +kernel
theorem dX9_chain_88 : decode cX9_chain 88 = .ok (.iload 4, 2) := by decide +kernel
theorem dX9_chain_90 : decode cX9_chain 90 = .ok (.iconst 3, 1) := by decide +kernel
theorem dX9_chain_91 : decode cX9_chain 91 = .ok (.if_icmp .le 6, 3) := by decide +kernel
theorem dX9_chain_94 : decode cX9_chain 94 = .ok (.bipush (-5), 2) := by decide +kernel
theorem dX9_chain_96 : decode cX9_chain 96 = .ok (.ireturn, 1) := by decide +kernel
theorem dX9_chain_97 : decode cX9_chain 97 = .ok (.iload_n 3, 1) := by decide +kernel
theorem dX9_chain_98 : decode cX9_chain 98 = .ok (.ifCond .ge 8, 3) := by decide +kernel
theorem dX9_chain_101 : decode cX9_chain 101 = .ok (.iload 4, 2) := by decide +kernel
theorem dX9_chain_103 : decode cX9_chain 103 = .ok (.goto 20, 3) := by decide +kernel
theorem dX9_chain_106 : decode cX9_chain 106 = .ok (.iload_n 3, 1) := by decide +kernel
theorem dX9_chain_107 : decode cX9_chain 107 = .ok (.iload 4, 2) := by decide +kernel
theorem dX9_chain_109 : decode cX9_chain 109 = .ok (.if_icmp .ge 12, 3) := by decide +kernel
theorem dX9_chain_112 : decode cX9_chain 112 = .ok (.aload_n 0, 1) := by decide +kernel
theorem dX9_chain_113 : decode cX9_chain 113 = .ok (.getfield 57, 3) := by decide +kernel
theorem dX9_chain_116 : decode cX9_chain 116 = .ok (.iload_n 3, 1) := by decide +kernel
theorem dX9_chain_117 : decode cX9_chain 117 = .ok (.iaload, 1) := by decide +kernel
theorem dX9_chain_118 : decode cX9_chain 118 = .ok (.goto 5, 3) := by decide +kernel
theorem dX9_chain_121 : decode cX9_chain 121 = .ok (.bipush (-5), 2) := by decide +kernel
theorem dX9_chain_123 : decode cX9_chain 123 = .ok (.ireturn, 1) := by decide +kernel
theorem dX9_named_0 : decode cX9_named 0 = .ok (.iconst 0, 1) := by decide +kernel
theorem dX9_named_1 : decode cX9_named 1 = .ok (.istore_n 2, 1) := by decide +kernel
theorem dX9_named_2 : decode cX9_named 2 = .ok (.iconst 0, 1) := by decide +kernel
theorem dX9_named_3 : decode cX9_named 3 = .ok (.istore_n 3, 1) := by decide +kernel
theorem dX9_named_4 : decode cX9_named 4 = .ok (.iload_n 3, 1) := by decide +kernel
theorem dX9_named_5 : decode cX9_named 5 = .ok (.bipush 8, 2) := by decide +kernel
theorem dX9_named_7 : decode cX9_named 7 = .ok (.if_icmp .ge 29, 3) := by decide +kernel
theorem dX9_named_10 : decode cX9_named 10 = .ok (.iload_n 1, 1) := by decide +kernel
theorem dX9_named_11 : decode cX9_named 11 = .ok (.iload_n 3, 1) := by decide +kernel
theorem dX9_named_12 : decode cX9_named 12 = .ok (.ishr, 1) := by decide +kernel
theorem dX9_named_13 : decode cX9_named 13 = .ok (.iconst 1, 1) := by decide +kernel
theorem dX9_named_14 : decode cX9_named 14 = .ok (.iand, 1) := by decide +kernel
theorem dX9_named_15 : decode cX9_named 15 = .ok (.iconst 1, 1) := by decide +kernel
theorem dX9_named_16 : decode cX9_named 16 = .ok (.if_icmp .ne 14, 3) := by decide +kernel
theorem dX9_named_19 : decode cX9_named 19 = .ok (.iload_n 2, 1) := by decide +kernel
theorem dX9_named_20 : decode cX9_named 20 = .ok (.iconst 1, 1) := by decide +kernel
theorem dX9_named_21 : decode cX9_named 21 = .ok (.aload_n 0, 1) := by decide +kernel
theorem dX9_named_22 : decode cX9_named 22 = .ok (.getfield 60, 3) := by decide +kernel
theorem dX9_named_25 : decode cX9_named 25 = .ok (.iload_n 3, 1) := by decide +kernel
theorem dX9_named_26 : decode cX9_named 26 = .ok (.iaload, 1) := by decide +kernel
theorem dX9_named_27 : decode cX9_named 27 = .ok (.ishl, 1) := by decide +kernel
theorem dX9_named_28 : decode cX9_named 28 = .ok (.ior, 1) := by decide +kernel
theorem dX9_named_29 : decode cX9_named 29 = .ok (.istore_n 2, 1) := by decide +kernel
theorem dX9_named_30 : decode cX9_named 30 = .ok (.iinc 3 1, 3) := by decide +kernel
theorem dX9_named_33 : decode cX9_named 33 = .ok (.goto (-29), 3) := by decide +kernel
theorem dX9_named_36 : decode cX9_named 36 = .ok (.iload_n 2, 1) := by decide +kernel
theorem dX9_named_37 : decode cX9_named 37 = .ok (.ireturn, 1) := by decide +kernel
theorem dX9_areNamed_0 : decode cX9_areNamed 0 = .ok (.iload_n 0, 1) := by decide +kernel
theorem dX9_areNamed_1 : decode cX9_areNamed 1 = .ok (.iload_n 1, 1) := by decide +kernel
theorem dX9_areNamed_2 : decode cX9_areNamed 2 = .ok (.ishr, 1) := by decide +kernel
theorem dX9_areNamed_3 : decode cX9_areNamed 3 = .ok (.ifCond .ne 7, 3) := by decide +kernel
theorem dX9_areNamed_6 : decode cX9_areNamed 6 = .ok (.iconst 1, 1) := by decide +kernel
theorem dX9_areNamed_7 : decode cX9_areNamed 7 = .ok (.goto 4, 3) := by decide +kernel
theorem dX9_areNamed_10 : decode cX9_areNamed 10 = .ok (.iconst 0, 1) := by decide +kernel
theorem dX9_areNamed_11 : decode cX9_areNamed 11 = .ok (.ireturn, 1) := by decide +kernel
theorem dX9_canName_0 : decode cX9_canName 0 = .ok (.iconst 1, 1) := by decide +kernel
theorem dX9_canName_1 : decode cX9_canName 1 = .ok (.istore 5, 2) := by decide +kernel
theorem dX9_canName_3 : decode cX9_canName 3 = .ok (.iload_n 1, 1) := by decide +kernel
theorem dX9_canName_4 : decode cX9_canName 4 = .ok (.ifCond .le 67, 3) := by decide +kernel
theorem dX9_canName_7 : decode cX9_canName 7 = .ok (.iload 5, 2) := by decide +kernel
theorem dX9_canName_9 : decode cX9_canName 9 = .ok (.iconst 1, 1) := by decide +kernel
theorem dX9_canName_10 : decode cX9_canName 10 = .ok (.iload_n 1, 1) := by decide +kernel
theorem dX9_canName_11 : decode cX9_canName 11 = .ok (.ishl, 1) := by decide +kernel
theorem dX9_canName_12 : decode cX9_canName 12 = .ok (.if_icmp .ge 59, 3) := by decide +kernel
theorem dX9_canName_15 : decode cX9_canName 15 = .ok (.iload 5, 2) := by decide +kernel
theorem dX9_canName_17 : decode cX9_canName 17 = .ok (.iload_n 1, 1) := by decide +kernel
theorem dX9_canName_18 : decode cX9_canName 18 = .ok (.invokestatic 228, 3) := by decide +kernel
theorem dX9_canName_21 : decode cX9_canName 21 = .ok (.ifCond .eq 18, 3) := by decide +kernel
theorem dX9_canName_24 : decode cX9_canName 24 = .ok (.iload 5, 2) := by decide +kernel
theorem dX9_canName_26 : decode cX9_canName 26 = .ok (.iload_n 1, 1) := by decide +kernel
theorem dX9_canName_27 : decode cX9_canName 27 = .ok (.iconst 1, 1) := by decide +kernel
theorem dX9_canName_28 : decode cX9_canName 28 = .ok (.isub, 1) := by decide +kernel
theorem dX9_canName_29 : decode cX9_canName 29 = .ok (.invokestatic 228, 3) := by decide +kernel
theorem dX9_canName_32 : decode cX9_canName 32 = .ok (.ifCond .ne 7, 3) := by decide +kernel
theorem dX9_canName_35 : decode cX9_canName 35 = .ok (.iconst 1, 1) := by decide +kernel
theorem dX9_canName_36 : decode cX9_canName 36 = .ok (.goto 4, 3) := by decide +kernel
theorem dX9_canName_39 : decode cX9_canName 39 = .ok (.iconst 0, 1) := by decide +kernel
theorem dX9_canName_40 : decode cX9_canName 40 = .ok (.istore 6, 2) := by decide +kernel
theorem dX9_canName_42 : decode cX9_canName 42 = .ok (.iload 6, 2) := by decide +kernel
theorem dX9_canName_44 : decode cX9_canName 44 = .ok (.ifCond .eq 21, 3) := by decide +kernel
theorem dX9_canName_47 : decode cX9_canName 47 = .ok (.aload_n 3, 1) := by decide +kernel
theorem dX9_canName_48 : decode cX9_canName 48 = .ok (.iload 5, 2) := by decide +kernel
theorem dX9_canName_50 : decode cX9_canName 50 = .ok (.baload, 1) := by decide +kernel
theorem dX9_canName_51 : decode cX9_canName 51 = .ok (.aload 4, 2) := by decide +kernel
theorem dX9_canName_53 : decode cX9_canName 53 = .ok (.aload_n 0, 1) := by decide +kernel
theorem dX9_canName_54 : decode cX9_canName 54 = .ok (.iload 5, 2) := by decide +kernel
theorem dX9_canName_56 : decode cX9_canName 56 = .ok (.invokevirtual 231, 3) := by decide +kernel
theorem dX9_canName_59 : decode cX9_canName 59 = .ok (.baload, 1) := by decide +kernel
theorem dX9_canName_60 : decode cX9_canName 60 = .ok (.if_icmp .eq 5, 3) := by decide +kernel
theorem dX9_canName_63 : decode cX9_canName 63 = .ok (.iconst 0, 1) := by decide +kernel
theorem dX9_canName_64 : decode cX9_canName 64 = .ok (.ireturn, 1) := by decide +kernel
theorem dX9_canName_65 : decode cX9_canName 65 = .ok (.iinc 5 1, 3) := by decide +kernel
theorem dX9_canName_68 : decode cX9_canName 68 = .ok (.goto (-65), 3) := by decide +kernel
theorem dX9_canName_71 : decode cX9_canName 71 = .ok (.iload_n 1, 1) := by decide +kernel
theorem dX9_canName_72 : decode cX9_canName 72 = .ok (.bipush 8, 2) := by decide +kernel
theorem dX9_canName_74 : decode cX9_canName 74 = .ok (.if_icmp .ne 5, 3) := by decide +kernel
theorem dX9_canName_77 : decode cX9_canName 77 = .ok (.iconst 1, 1) := by decide +kernel
theorem dX9_canName_78 : decode cX9_canName 78 = .ok (.ireturn, 1) := by decide +kernel
theorem dX9_canName_79 : decode cX9_canName 79 = .ok (.iconst 0, 1) := by decide +kernel
theorem dX9_canName_80 : decode cX9_canName 80 = .ok (.istore 5, 2) := by decide +kernel
theorem dX9_canName_82 : decode cX9_canName 82 = .ok (.iload 5, 2) := by decide +kernel
theorem dX9_canName_84 : decode cX9_canName 84 = .ok (.bipush 8, 2) := by decide +kernel
theorem dX9_canName_86 : decode cX9_canName 86 = .ok (.if_icmp .ge 51, 3) := by decide +kernel
theorem dX9_canName_89 : decode cX9_canName 89 = .ok (.iload_n 2, 1) := by decide +kernel
theorem dX9_canName_90 : decode cX9_canName 90 = .ok (.iload 5, 2) := by decide +kernel
theorem dX9_canName_92 : decode cX9_canName 92 = .ok (.ishr, 1) := by decide +kernel
theorem dX9_canName_93 : decode cX9_canName 93 = .ok (.iconst 1, 1) := by decide +kernel
theorem dX9_canName_94 : decode cX9_canName 94 = .ok (.iand, 1) := by decide +kernel
theorem dX9_canName_95 : decode cX9_canName 95 = .ok (.iconst 1, 1) := by decide +kernel
theorem dX9_canName_96 : decode cX9_canName 96 = .ok (.if_icmp .ne 6, 3) := by decide +kernel
theorem dX9_canName_99 : decode cX9_canName 99 = .ok (.goto 32, 3) := by decide +kernel
theorem dX9_canName_102 : decode cX9_canName 102 = .ok (.aload_n 0, 1) := by decide +kernel
theorem dX9_canName_103 : decode cX9_canName 103 = .ok (.getfield 60, 3) := by decide +kernel
theorem dX9_canName_106 : decode cX9_canName 106 = .ok (.iload_n 1, 1) := by decide +kernel
theorem dX9_canName_107 : decode cX9_canName 107 = .ok (.iload 5, 2) := by decide +kernel
theorem dX9_canName_109 : decode cX9_canName 109 = .ok (.iastore, 1) := by decide +kernel
theorem dX9_canName_110 : decode cX9_canName 110 = .ok (.aload_n 0, 1) := by decide +kernel
theorem dX9_canName_111 : decode cX9_canName 111 = .ok (.iload_n 1, 1) := by decide +kernel
theorem dX9_canName_112 : decode cX9_canName 112 = .ok (.iconst 1, 1) := by decide +kernel
theorem dX9_canName_113 : decode cX9_canName 113 = .ok (.iadd, 1) := by decide +kernel
theorem dX9_canName_114 : decode cX9_canName 114 = .ok (.iload_n 2, 1) := by decide +kernel
theorem dX9_canName_115 : decode cX9_canName 115 = .ok (.iconst 1, 1) := by decide +kernel
theorem dX9_canName_116 : decode cX9_canName 116 = .ok (.iload 5, 2) := by decide +kernel
theorem dX9_canName_118 : decode cX9_canName 118 = .ok (.ishl, 1) := by decide +kernel
theorem dX9_canName_119 : decode cX9_canName 119 = .ok (.ior, 1) := by decide +kernel
theorem dX9_canName_120 : decode cX9_canName 120 = .ok (.aload_n 3, 1) := by decide +kernel
theorem dX9_canName_121 : decode cX9_canName 121 = .ok (.aload 4, 2) := by decide +kernel
theorem dX9_canName_123 : decode cX9_canName 123 = .ok (.invokevirtual 234, 3) := by decide +kernel
theorem dX9_canName_126 : decode cX9_canName 126 = .ok (.ifCond .eq 5, 3) := by decide +kernel
theorem dX9_canName_129 : decode cX9_canName 129 = .ok (.iconst 1, 1) := by decide +kernel
theorem dX9_canName_130 : decode cX9_canName 130 = .ok (.ireturn, 1) := by decide +kernel
theorem dX9_canName_131 : decode cX9_canName 131 = .ok (.iinc 5 1, 3) := by decide +kernel
theorem dX9_canName_134 : decode cX9_canName 134 = .ok (.goto (-52), 3) := by decide +kernel
theorem dX9_canName_137 : decode cX9_canName 137 = .ok (.iconst 0, 1) := by decide +kernel
theorem dX9_canName_138 : decode cX9_canName 138 = .ok (.ireturn, 1) := by decide +kernel
theorem dX9_alike_0 : decode cX9_alike 0 = .ok (.aload_n 0, 1) := by decide +kernel
theorem dX9_alike_1 : decode cX9_alike 1 = .ok (.iload_n 1, 1) := by decide +kernel
theorem dX9_alike_2 : decode cX9_alike 2 = .ok (.invokevirtual 217, 3) := by decide +kernel
theorem dX9_alike_5 : decode cX9_alike 5 = .ok (.ifCond .eq 11, 3) := by decide +kernel
theorem dX9_alike_8 : decode cX9_alike 8 = .ok (.aload_n 0, 1) := by decide +kernel
theorem dX9_alike_9 : decode cX9_alike 9 = .ok (.iload_n 2, 1) := by decide +kernel
theorem dX9_alike_10 : decode cX9_alike 10 = .ok (.invokevirtual 217, 3) := by decide +kernel
theorem dX9_alike_13 : decode cX9_alike 13 = .ok (.ifCond .ne 5, 3) := by decide +kernel
theorem dX9_alike_16 : decode cX9_alike 16 = .ok (.iconst (-1), 1) := by decide +kernel
theorem dX9_alike_17 : decode cX9_alike 17 = .ok (.ireturn, 1) := by decide +kernel
theorem dX9_alike_18 : decode cX9_alike 18 = .ok (.aload_n 0, 1) := by decide +kernel
theorem dX9_alike_19 : decode cX9_alike 19 = .ok (.getfield 54, 3) := by decide +kernel
theorem dX9_alike_22 : decode cX9_alike 22 = .ok (.iload_n 1, 1) := by decide +kernel
theorem dX9_alike_23 : decode cX9_alike 23 = .ok (.iaload, 1) := by decide +kernel
theorem dX9_alike_24 : decode cX9_alike 24 = .ok (.aload_n 0, 1) := by decide +kernel
theorem dX9_alike_25 : decode cX9_alike 25 = .ok (.getfield 54, 3) := by decide +kernel
theorem dX9_alike_28 : decode cX9_alike 28 = .ok (.iload_n 2, 1) := by decide +kernel
theorem dX9_alike_29 : decode cX9_alike 29 = .ok (.iaload, 1) := by decide +kernel
theorem dX9_alike_30 : decode cX9_alike 30 = .ok (.if_icmp .ne 24, 3) := by decide +kernel
theorem dX9_alike_33 : decode cX9_alike 33 = .ok (.aload_n 0, 1) := by decide +kernel
theorem dX9_alike_34 : decode cX9_alike 34 = .ok (.getfield 51, 3) := by decide +kernel
theorem dX9_alike_37 : decode cX9_alike 37 = .ok (.iload_n 1, 1) := by decide +kernel
theorem dX9_alike_38 : decode cX9_alike 38 = .ok (.aaload, 1) := by decide +kernel
theorem dX9_alike_39 : decode cX9_alike 39 = .ok (.invokestatic 140, 3) := by decide +kernel
theorem dX9_alike_42 : decode cX9_alike 42 = .ok (.aload_n 0, 1) := by decide +kernel
theorem dX9_alike_43 : decode cX9_alike 43 = .ok (.getfield 51, 3) := by decide +kernel
theorem dX9_alike_46 : decode cX9_alike 46 = .ok (.iload_n 2, 1) := by decide +kernel
theorem dX9_alike_47 : decode cX9_alike 47 = .ok (.aaload, 1) := by decide +kernel
theorem dX9_alike_48 : decode cX9_alike 48 = .ok (.invokestatic 140, 3) := by decide +kernel
theorem dX9_alike_51 : decode cX9_alike 51 = .ok (.if_icmp .eq 5, 3) := by decide +kernel
theorem dX9_alike_54 : decode cX9_alike 54 = .ok (.iconst 0, 1) := by decide +kernel
theorem dX9_alike_55 : decode cX9_alike 55 = .ok (.ireturn, 1) := by decide +kernel
theorem dX9_alike_56 : decode cX9_alike 56 = .ok (.aload_n 0, 1) := by decide +kernel
theorem dX9_alike_57 : decode cX9_alike 57 = .ok (.iconst 0, 1) := by decide +kernel
theorem dX9_alike_58 : decode cX9_alike 58 = .ok (.iconst 0, 1) := by decide +kernel
theorem dX9_alike_59 : decode cX9_alike 59 = .ok (.aload_n 0, 1) := by decide +kernel
theorem dX9_alike_60 : decode cX9_alike 60 = .ok (.getfield 51, 3) := by decide +kernel
theorem dX9_alike_63 : decode cX9_alike 63 = .ok (.iload_n 1, 1) := by decide +kernel
theorem dX9_alike_64 : decode cX9_alike 64 = .ok (.aaload, 1) := by decide +kernel
theorem dX9_alike_65 : decode cX9_alike 65 = .ok (.aload_n 0, 1) := by decide +kernel
theorem dX9_alike_66 : decode cX9_alike 66 = .ok (.getfield 51, 3) := by decide +kernel
theorem dX9_alike_69 : decode cX9_alike 69 = .ok (.iload_n 2, 1) := by decide +kernel
theorem dX9_alike_70 : decode cX9_alike 70 = .ok (.aaload, 1) := by decide +kernel
theorem dX9_alike_71 : decode cX9_alike 71 = .ok (.invokevirtual 234, 3) := by decide +kernel
theorem dX9_alike_74 : decode cX9_alike 74 = .ok (.ifCond .eq 7, 3) := by decide +kernel
theorem dX9_alike_77 : decode cX9_alike 77 = .ok (.iconst 1, 1) := by decide +kernel
theorem dX9_alike_78 : decode cX9_alike 78 = .ok (.goto 4, 3) := by decide +kernel
theorem dX9_alike_81 : decode cX9_alike 81 = .ok (.iconst 0, 1) := by decide +kernel
theorem dX9_alike_82 : decode cX9_alike 82 = .ok (.ireturn, 1) := by decide +kernel
theorem dX9_common_0 : decode cX9_common 0 = .ok (.aload_n 0, 1) := by decide +kernel
theorem dX9_common_1 : decode cX9_common 1 = .ok (.iload_n 1, 1) := by decide +kernel
theorem dX9_common_2 : decode cX9_common 2 = .ok (.invokevirtual 217, 3) := by decide +kernel
theorem dX9_common_5 : decode cX9_common 5 = .ok (.ifCond .eq 11, 3) := by decide +kernel
theorem dX9_common_8 : decode cX9_common 8 = .ok (.aload_n 0, 1) := by decide +kernel
theorem dX9_common_9 : decode cX9_common 9 = .ok (.iload_n 2, 1) := by decide +kernel
theorem dX9_common_10 : decode cX9_common 10 = .ok (.invokevirtual 217, 3) := by decide +kernel
theorem dX9_common_13 : decode cX9_common 13 = .ok (.ifCond .ne 5, 3) := by decide +kernel
theorem dX9_common_16 : decode cX9_common 16 = .ok (.iconst (-1), 1) := by decide +kernel
theorem dX9_common_17 : decode cX9_common 17 = .ok (.ireturn, 1) := by decide +kernel
theorem dX9_common_18 : decode cX9_common 18 = .ok (.iconst 0, 1) := by decide +kernel
theorem dX9_common_19 : decode cX9_common 19 = .ok (.istore_n 3, 1) := by decide +kernel
theorem dX9_common_20 : decode cX9_common 20 = .ok (.iconst 1, 1) := by decide +kernel
theorem dX9_common_21 : decode cX9_common 21 = .ok (.istore 4, 2) := by decide +kernel
theorem dX9_common_23 : decode cX9_common 23 = .ok (.iload 4, 2) := by decide +kernel
theorem dX9_common_25 : decode cX9_common 25 = .ok (.sipush 256, 3) := by decide +kernel
theorem dX9_common_28 : decode cX9_common 28 = .ok (.if_icmp .ge 36, 3) := by decide +kernel
theorem dX9_common_31 : decode cX9_common 31 = .ok (.aload_n 0, 1) := by decide +kernel
theorem dX9_common_32 : decode cX9_common 32 = .ok (.getfield 51, 3) := by decide +kernel
theorem dX9_common_35 : decode cX9_common 35 = .ok (.iload_n 1, 1) := by decide +kernel
theorem dX9_common_36 : decode cX9_common 36 = .ok (.aaload, 1) := by decide +kernel
theorem dX9_common_37 : decode cX9_common 37 = .ok (.iload 4, 2) := by decide +kernel
theorem dX9_common_39 : decode cX9_common 39 = .ok (.baload, 1) := by decide +kernel
theorem dX9_common_40 : decode cX9_common 40 = .ok (.ifCond .eq 18, 3) := by decide +kernel
theorem dX9_common_43 : decode cX9_common 43 = .ok (.aload_n 0, 1) := by decide +kernel
theorem dX9_common_44 : decode cX9_common 44 = .ok (.getfield 51, 3) := by decide +kernel
theorem dX9_common_47 : decode cX9_common 47 = .ok (.iload_n 2, 1) := by decide +kernel
theorem dX9_common_48 : decode cX9_common 48 = .ok (.aaload, 1) := by decide +kernel
theorem dX9_common_49 : decode cX9_common 49 = .ok (.iload 4, 2) := by decide +kernel
theorem dX9_common_51 : decode cX9_common 51 = .ok (.baload, 1) := by decide +kernel
theorem dX9_common_52 : decode cX9_common 52 = .ok (.ifCond .eq 6, 3) := by decide +kernel
theorem dX9_common_55 : decode cX9_common 55 = .ok (.iinc 3 1, 3) := by decide +kernel
theorem dX9_common_58 : decode cX9_common 58 = .ok (.iinc 4 1, 3) := by decide +kernel
theorem dX9_common_61 : decode cX9_common 61 = .ok (.goto (-38), 3) := by decide +kernel
theorem dX9_common_64 : decode cX9_common 64 = .ok (.iload_n 3, 1) := by decide +kernel
theorem dX9_common_65 : decode cX9_common 65 = .ok (.ireturn, 1) := by decide +kernel
theorem dX9_firstFewer_0 : decode cX9_firstFewer 0 = .ok (.iconst 0, 1) := by decide +kernel
theorem dX9_firstFewer_1 : decode cX9_firstFewer 1 = .ok (.istore_n 1, 1) := by decide +kernel
theorem dX9_firstFewer_2 : decode cX9_firstFewer 2 = .ok (.iload_n 1, 1) := by decide +kernel
theorem dX9_firstFewer_3 : decode cX9_firstFewer 3 = .ok (.aload_n 0, 1) := by decide +kernel
theorem dX9_firstFewer_4 : decode cX9_firstFewer 4 = .ok (.getfield 45, 3) := by decide +kernel
theorem dX9_firstFewer_7 : decode cX9_firstFewer 7 = .ok (.iconst 0, 1) := by decide +kernel
theorem dX9_firstFewer_8 : decode cX9_firstFewer 8 = .ok (.iaload, 1) := by decide +kernel
theorem dX9_firstFewer_9 : decode cX9_firstFewer 9 = .ok (.if_icmp .ge 36, 3) := by decide +kernel
theorem dX9_firstFewer_12 : decode cX9_firstFewer 12 = .ok (.aload_n 0, 1) := by decide +kernel
theorem dX9_firstFewer_13 : decode cX9_firstFewer 13 = .ok (.getfield 39, 3) := by decide +kernel
theorem dX9_firstFewer_16 : decode cX9_firstFewer 16 = .ok (.iconst 0, 1) := by decide +kernel
theorem dX9_firstFewer_17 : decode cX9_firstFewer 17 = .ok (.aaload, 1) := by decide +kernel
theorem dX9_firstFewer_18 : decode cX9_firstFewer 18 = .ok (.iload_n 1, 1) := by decide +kernel
theorem dX9_firstFewer_19 : decode cX9_firstFewer 19 = .ok (.iaload, 1) := by decide +kernel
theorem dX9_firstFewer_20 : decode cX9_firstFewer 20 = .ok (.invokestatic 110, 3) := by decide +kernel
theorem dX9_firstFewer_23 : decode cX9_firstFewer 23 = .ok (.aload_n 0, 1) := by decide +kernel
theorem dX9_firstFewer_24 : decode cX9_firstFewer 24 = .ok (.getfield 42, 3) := by decide +kernel
theorem dX9_firstFewer_27 : decode cX9_firstFewer 27 = .ok (.iconst 0, 1) := by decide +kernel
theorem dX9_firstFewer_28 : decode cX9_firstFewer 28 = .ok (.aaload, 1) := by decide +kernel
theorem dX9_firstFewer_29 : decode cX9_firstFewer 29 = .ok (.iload_n 1, 1) := by decide +kernel
theorem dX9_firstFewer_30 : decode cX9_firstFewer 30 = .ok (.iaload, 1) := by decide +kernel
theorem dX9_firstFewer_31 : decode cX9_firstFewer 31 = .ok (.invokestatic 110, 3) := by decide +kernel
theorem dX9_firstFewer_34 : decode cX9_firstFewer 34 = .ok (.if_icmp .ge 5, 3) := by decide +kernel
theorem dX9_firstFewer_37 : decode cX9_firstFewer 37 = .ok (.iload_n 1, 1) := by decide +kernel
theorem dX9_firstFewer_38 : decode cX9_firstFewer 38 = .ok (.ireturn, 1) := by decide +kernel
theorem dX9_firstFewer_39 : decode cX9_firstFewer 39 = .ok (.iinc 1 1, 3) := by decide +kernel
theorem dX9_firstFewer_42 : decode cX9_firstFewer 42 = .ok (.goto (-40), 3) := by decide +kernel
theorem dX9_firstFewer_45 : decode cX9_firstFewer 45 = .ok (.bipush (-5), 2) := by decide +kernel
theorem dX9_firstFewer_47 : decode cX9_firstFewer 47 = .ok (.ireturn, 1) := by decide +kernel
theorem dX9_fewer_0 : decode cX9_fewer 0 = .ok (.iload_n 1, 1) := by decide +kernel
theorem dX9_fewer_1 : decode cX9_fewer 1 = .ok (.iconst 0, 1) := by decide +kernel
theorem dX9_fewer_2 : decode cX9_fewer 2 = .ok (.iconst 1, 1) := by decide +kernel
theorem dX9_fewer_3 : decode cX9_fewer 3 = .ok (.invokestatic 91, 3) := by decide +kernel
theorem dX9_fewer_6 : decode cX9_fewer 6 = .ok (.ifCond .ne 5, 3) := by decide +kernel
theorem dX9_fewer_9 : decode cX9_fewer 9 = .ok (.iconst (-1), 1) := by decide +kernel
theorem dX9_fewer_10 : decode cX9_fewer 10 = .ok (.ireturn, 1) := by decide +kernel
theorem dX9_fewer_11 : decode cX9_fewer 11 = .ok (.aload_n 0, 1) := by decide +kernel
theorem dX9_fewer_12 : decode cX9_fewer 12 = .ok (.getfield 15, 3) := by decide +kernel
theorem dX9_fewer_15 : decode cX9_fewer 15 = .ok (.aload_n 0, 1) := by decide +kernel
theorem dX9_fewer_16 : decode cX9_fewer 16 = .ok (.getfield 48, 3) := by decide +kernel
theorem dX9_fewer_19 : decode cX9_fewer 19 = .ok (.iconst 0, 1) := by decide +kernel
theorem dX9_fewer_20 : decode cX9_fewer 20 = .ok (.aaload, 1) := by decide +kernel
theorem dX9_fewer_21 : decode cX9_fewer 21 = .ok (.invokestatic 123, 3) := by decide +kernel
theorem dX9_fewer_24 : decode cX9_fewer 24 = .ok (.iconst 0, 1) := by decide +kernel
theorem dX9_fewer_25 : decode cX9_fewer 25 = .ok (.istore_n 2, 1) := by decide +kernel
theorem dX9_fewer_26 : decode cX9_fewer 26 = .ok (.aload_n 0, 1) := by decide +kernel
theorem dX9_fewer_27 : decode cX9_fewer 27 = .ok (.aload_n 0, 1) := by decide +kernel
theorem dX9_fewer_28 : decode cX9_fewer 28 = .ok (.getfield 48, 3) := by decide +kernel
theorem dX9_fewer_31 : decode cX9_fewer 31 = .ok (.iconst 0, 1) := by decide +kernel
theorem dX9_fewer_32 : decode cX9_fewer 32 = .ok (.aaload, 1) := by decide +kernel
theorem dX9_fewer_33 : decode cX9_fewer 33 = .ok (.iconst 0, 1) := by decide +kernel
theorem dX9_fewer_34 : decode cX9_fewer 34 = .ok (.invokevirtual 203, 3) := by decide +kernel
theorem dX9_fewer_37 : decode cX9_fewer 37 = .ok (.aload_n 0, 1) := by decide +kernel
theorem dX9_fewer_38 : decode cX9_fewer 38 = .ok (.invokevirtual 238, 3) := by decide +kernel
theorem dX9_fewer_41 : decode cX9_fewer 41 = .ok (.istore_n 3, 1) := by decide +kernel
theorem dX9_fewer_42 : decode cX9_fewer 42 = .ok (.iload_n 3, 1) := by decide +kernel
theorem dX9_fewer_43 : decode cX9_fewer 43 = .ok (.ifCond .lt 51, 3) := by decide +kernel
theorem dX9_fewer_46 : decode cX9_fewer 46 = .ok (.aload_n 0, 1) := by decide +kernel
theorem dX9_fewer_47 : decode cX9_fewer 47 = .ok (.aload_n 0, 1) := by decide +kernel
theorem dX9_fewer_48 : decode cX9_fewer 48 = .ok (.getfield 48, 3) := by decide +kernel
theorem dX9_fewer_51 : decode cX9_fewer 51 = .ok (.iconst 0, 1) := by decide +kernel
theorem dX9_fewer_52 : decode cX9_fewer 52 = .ok (.aaload, 1) := by decide +kernel
theorem dX9_fewer_53 : decode cX9_fewer 53 = .ok (.aload_n 0, 1) := by decide +kernel
theorem dX9_fewer_54 : decode cX9_fewer 54 = .ok (.getfield 39, 3) := by decide +kernel
theorem dX9_fewer_57 : decode cX9_fewer 57 = .ok (.iconst 0, 1) := by decide +kernel
theorem dX9_fewer_58 : decode cX9_fewer 58 = .ok (.aaload, 1) := by decide +kernel
theorem dX9_fewer_59 : decode cX9_fewer 59 = .ok (.iload_n 3, 1) := by decide +kernel
theorem dX9_fewer_60 : decode cX9_fewer 60 = .ok (.iaload, 1) := by decide +kernel
theorem dX9_fewer_61 : decode cX9_fewer 61 = .ok (.aload_n 0, 1) := by decide +kernel
theorem dX9_fewer_62 : decode cX9_fewer 62 = .ok (.getfield 42, 3) := by decide +kernel
theorem dX9_fewer_65 : decode cX9_fewer 65 = .ok (.iconst 0, 1) := by decide +kernel
theorem dX9_fewer_66 : decode cX9_fewer 66 = .ok (.aaload, 1) := by decide +kernel
theorem dX9_fewer_67 : decode cX9_fewer 67 = .ok (.iload_n 3, 1) := by decide +kernel
theorem dX9_fewer_68 : decode cX9_fewer 68 = .ok (.iaload, 1) := by decide +kernel
theorem dX9_fewer_69 : decode cX9_fewer 69 = .ok (.invokevirtual 210, 3) := by decide +kernel
theorem dX9_fewer_72 : decode cX9_fewer 72 = .ok (.iinc 2 1, 3) := by decide +kernel
theorem dX9_fewer_75 : decode cX9_fewer 75 = .ok (.aload_n 0, 1) := by decide +kernel
theorem dX9_fewer_76 : decode cX9_fewer 76 = .ok (.aload_n 0, 1) := by decide +kernel
theorem dX9_fewer_77 : decode cX9_fewer 77 = .ok (.getfield 48, 3) := by decide +kernel
theorem dX9_fewer_80 : decode cX9_fewer 80 = .ok (.iconst 0, 1) := by decide +kernel
theorem dX9_fewer_81 : decode cX9_fewer 81 = .ok (.aaload, 1) := by decide +kernel
theorem dX9_fewer_82 : decode cX9_fewer 82 = .ok (.iconst 0, 1) := by decide +kernel
theorem dX9_fewer_83 : decode cX9_fewer 83 = .ok (.invokevirtual 203, 3) := by decide +kernel
theorem dX9_fewer_86 : decode cX9_fewer 86 = .ok (.aload_n 0, 1) := by decide +kernel
theorem dX9_fewer_87 : decode cX9_fewer 87 = .ok (.invokevirtual 238, 3) := by decide +kernel
theorem dX9_fewer_90 : decode cX9_fewer 90 = .ok (.istore_n 3, 1) := by decide +kernel
theorem dX9_fewer_91 : decode cX9_fewer 91 = .ok (.goto (-49), 3) := by decide +kernel
theorem dX9_fewer_94 : decode cX9_fewer 94 = .ok (.iload_n 1, 1) := by decide +kernel
theorem dX9_fewer_95 : decode cX9_fewer 95 = .ok (.ifCond .ne 7, 3) := by decide +kernel
theorem dX9_fewer_98 : decode cX9_fewer 98 = .ok (.iload_n 2, 1) := by decide +kernel
theorem dX9_fewer_99 : decode cX9_fewer 99 = .ok (.goto 12, 3) := by decide +kernel
theorem dX9_fewer_102 : decode cX9_fewer 102 = .ok (.aload_n 0, 1) := by decide +kernel
theorem dX9_fewer_103 : decode cX9_fewer 103 = .ok (.getfield 48, 3) := by decide +kernel
theorem dX9_fewer_106 : decode cX9_fewer 106 = .ok (.iconst 0, 1) := by decide +kernel
theorem dX9_fewer_107 : decode cX9_fewer 107 = .ok (.aaload, 1) := by decide +kernel
theorem dX9_fewer_108 : decode cX9_fewer 108 = .ok (.invokestatic 140, 3) := by decide +kernel
theorem dX9_fewer_111 : decode cX9_fewer 111 = .ok (.ireturn, 1) := by decide +kernel
theorem dX9_walk_0 : decode cX9_walk 0 = .ok (.iload_n 1, 1) := by decide +kernel
theorem dX9_walk_1 : decode cX9_walk 1 = .ok (.iconst 0, 1) := by decide +kernel
theorem dX9_walk_2 : decode cX9_walk 2 = .ok (.bipush 20, 2) := by decide +kernel
theorem dX9_walk_4 : decode cX9_walk 4 = .ok (.invokestatic 91, 3) := by decide +kernel
theorem dX9_walk_7 : decode cX9_walk 7 = .ok (.ifCond .ne 6, 3) := by decide +kernel
theorem dX9_walk_10 : decode cX9_walk 10 = .ok (.bipush (-2), 2) := by decide +kernel
theorem dX9_walk_12 : decode cX9_walk 12 = .ok (.ireturn, 1) := by decide +kernel
theorem dX9_walk_13 : decode cX9_walk 13 = .ok (.iload_n 3, 1) := by decide +kernel
theorem dX9_walk_14 : decode cX9_walk 14 = .ok (.iconst 0, 1) := by decide +kernel
theorem dX9_walk_15 : decode cX9_walk 15 = .ok (.iconst 2, 1) := by decide +kernel
theorem dX9_walk_16 : decode cX9_walk 16 = .ok (.invokestatic 91, 3) := by decide +kernel
theorem dX9_walk_19 : decode cX9_walk 19 = .ok (.ifCond .ne 5, 3) := by decide +kernel
theorem dX9_walk_22 : decode cX9_walk 22 = .ok (.iconst (-1), 1) := by decide +kernel
theorem dX9_walk_23 : decode cX9_walk 23 = .ok (.ireturn, 1) := by decide +kernel
theorem dX9_walk_24 : decode cX9_walk 24 = .ok (.aload_n 0, 1) := by decide +kernel
theorem dX9_walk_25 : decode cX9_walk 25 = .ok (.getfield 15, 3) := by decide +kernel
theorem dX9_walk_28 : decode cX9_walk 28 = .ok (.aload_n 0, 1) := by decide +kernel
theorem dX9_walk_29 : decode cX9_walk 29 = .ok (.getfield 48, 3) := by decide +kernel
theorem dX9_walk_32 : decode cX9_walk 32 = .ok (.iconst 0, 1) := by decide +kernel
theorem dX9_walk_33 : decode cX9_walk 33 = .ok (.aaload, 1) := by decide +kernel
theorem dX9_walk_34 : decode cX9_walk 34 = .ok (.invokestatic 123, 3) := by decide +kernel
theorem dX9_walk_37 : decode cX9_walk 37 = .ok (.iload_n 2, 1) := by decide +kernel
theorem dX9_walk_38 : decode cX9_walk 38 = .ok (.istore 4, 2) := by decide +kernel
theorem dX9_walk_40 : decode cX9_walk 40 = .ok (.iconst 0, 1) := by decide +kernel
theorem dX9_walk_41 : decode cX9_walk 41 = .ok (.istore 5, 2) := by decide +kernel
theorem dX9_walk_43 : decode cX9_walk 43 = .ok (.iload 5, 2) := by decide +kernel
theorem dX9_walk_45 : decode cX9_walk 45 = .ok (.iload_n 1, 1) := by decide +kernel
theorem dX9_walk_46 : decode cX9_walk 46 = .ok (.if_icmp .ge 88, 3) := by decide +kernel
theorem dX9_walk_49 : decode cX9_walk 49 = .ok (.aload_n 0, 1) := by decide +kernel
theorem dX9_walk_50 : decode cX9_walk 50 = .ok (.aload_n 0, 1) := by decide +kernel
theorem dX9_walk_51 : decode cX9_walk 51 = .ok (.getfield 48, 3) := by decide +kernel
theorem dX9_walk_54 : decode cX9_walk 54 = .ok (.iconst 0, 1) := by decide +kernel
theorem dX9_walk_55 : decode cX9_walk 55 = .ok (.aaload, 1) := by decide +kernel
theorem dX9_walk_56 : decode cX9_walk 56 = .ok (.iconst 0, 1) := by decide +kernel
theorem dX9_walk_57 : decode cX9_walk 57 = .ok (.invokevirtual 203, 3) := by decide +kernel
theorem dX9_walk_60 : decode cX9_walk 60 = .ok (.aload_n 0, 1) := by decide +kernel
theorem dX9_walk_61 : decode cX9_walk 61 = .ok (.getfield 45, 3) := by decide +kernel
theorem dX9_walk_64 : decode cX9_walk 64 = .ok (.iconst 0, 1) := by decide +kernel
theorem dX9_walk_65 : decode cX9_walk 65 = .ok (.iaload, 1) := by decide +kernel
theorem dX9_walk_66 : decode cX9_walk 66 = .ok (.ifCond .ne 6, 3) := by decide +kernel
theorem dX9_walk_69 : decode cX9_walk 69 = .ok (.goto 59, 3) := by decide +kernel
theorem dX9_walk_72 : decode cX9_walk 72 = .ok (.iload 4, 2) := by decide +kernel
theorem dX9_walk_74 : decode cX9_walk 74 = .ok (.ldc 241, 2) := by decide +kernel
theorem dX9_walk_76 : decode cX9_walk 76 = .ok (.imul, 1) := by decide +kernel
theorem dX9_walk_77 : decode cX9_walk 77 = .ok (.sipush 12345, 3) := by decide +kernel
theorem dX9_walk_80 : decode cX9_walk 80 = .ok (.iadd, 1) := by decide +kernel
theorem dX9_walk_81 : decode cX9_walk 81 = .ok (.istore 4, 2) := by decide +kernel
theorem dX9_walk_83 : decode cX9_walk 83 = .ok (.iload 4, 2) := by decide +kernel
theorem dX9_walk_85 : decode cX9_walk 85 = .ok (.ldc 242, 2) := by decide +kernel
theorem dX9_walk_87 : decode cX9_walk 87 = .ok (.iand, 1) := by decide +kernel
theorem dX9_walk_88 : decode cX9_walk 88 = .ok (.bipush 16, 2) := by decide +kernel
theorem dX9_walk_90 : decode cX9_walk 90 = .ok (.ishr, 1) := by decide +kernel
theorem dX9_walk_91 : decode cX9_walk 91 = .ok (.aload_n 0, 1) := by decide +kernel
theorem dX9_walk_92 : decode cX9_walk 92 = .ok (.getfield 45, 3) := by decide +kernel
theorem dX9_walk_95 : decode cX9_walk 95 = .ok (.iconst 0, 1) := by decide +kernel
theorem dX9_walk_96 : decode cX9_walk 96 = .ok (.iaload, 1) := by decide +kernel
theorem dX9_walk_97 : decode cX9_walk 97 = .ok (.irem, 1) := by decide +kernel
theorem dX9_walk_98 : decode cX9_walk 98 = .ok (.istore 6, 2) := by decide +kernel
theorem dX9_walk_100 : decode cX9_walk 100 = .ok (.aload_n 0, 1) := by decide +kernel
theorem dX9_walk_101 : decode cX9_walk 101 = .ok (.aload_n 0, 1) := by decide +kernel
theorem dX9_walk_102 : decode cX9_walk 102 = .ok (.getfield 48, 3) := by decide +kernel
theorem dX9_walk_105 : decode cX9_walk 105 = .ok (.iconst 0, 1) := by decide +kernel
theorem dX9_walk_106 : decode cX9_walk 106 = .ok (.aaload, 1) := by decide +kernel
theorem dX9_walk_107 : decode cX9_walk 107 = .ok (.aload_n 0, 1) := by decide +kernel
theorem dX9_walk_108 : decode cX9_walk 108 = .ok (.getfield 39, 3) := by decide +kernel
theorem dX9_walk_111 : decode cX9_walk 111 = .ok (.iconst 0, 1) := by decide +kernel
theorem dX9_walk_112 : decode cX9_walk 112 = .ok (.aaload, 1) := by decide +kernel
theorem dX9_walk_113 : decode cX9_walk 113 = .ok (.iload 6, 2) := by decide +kernel
theorem dX9_walk_115 : decode cX9_walk 115 = .ok (.iaload, 1) := by decide +kernel
theorem dX9_walk_116 : decode cX9_walk 116 = .ok (.aload_n 0, 1) := by decide +kernel
theorem dX9_walk_117 : decode cX9_walk 117 = .ok (.getfield 42, 3) := by decide +kernel
theorem dX9_walk_120 : decode cX9_walk 120 = .ok (.iconst 0, 1) := by decide +kernel
theorem dX9_walk_121 : decode cX9_walk 121 = .ok (.aaload, 1) := by decide +kernel
theorem dX9_walk_122 : decode cX9_walk 122 = .ok (.iload 6, 2) := by decide +kernel
theorem dX9_walk_124 : decode cX9_walk 124 = .ok (.iaload, 1) := by decide +kernel
theorem dX9_walk_125 : decode cX9_walk 125 = .ok (.invokevirtual 210, 3) := by decide +kernel
theorem dX9_walk_128 : decode cX9_walk 128 = .ok (.iinc 5 1, 3) := by decide +kernel
theorem dX9_walk_131 : decode cX9_walk 131 = .ok (.goto (-88), 3) := by decide +kernel
theorem dX9_walk_134 : decode cX9_walk 134 = .ok (.aload_n 0, 1) := by decide +kernel
theorem dX9_walk_135 : decode cX9_walk 135 = .ok (.aload_n 0, 1) := by decide +kernel
theorem dX9_walk_136 : decode cX9_walk 136 = .ok (.getfield 48, 3) := by decide +kernel
theorem dX9_walk_139 : decode cX9_walk 139 = .ok (.iconst 0, 1) := by decide +kernel
theorem dX9_walk_140 : decode cX9_walk 140 = .ok (.aaload, 1) := by decide +kernel
theorem dX9_walk_141 : decode cX9_walk 141 = .ok (.invokevirtual 150, 3) := by decide +kernel
theorem dX9_walk_144 : decode cX9_walk 144 = .ok (.iload_n 3, 1) := by decide +kernel
theorem dX9_walk_145 : decode cX9_walk 145 = .ok (.ifCond .ne 15, 3) := by decide +kernel
theorem dX9_walk_148 : decode cX9_walk 148 = .ok (.aload_n 0, 1) := by decide +kernel
theorem dX9_walk_149 : decode cX9_walk 149 = .ok (.getfield 48, 3) := by decide +kernel
theorem dX9_walk_152 : decode cX9_walk 152 = .ok (.iconst 0, 1) := by decide +kernel
theorem dX9_walk_153 : decode cX9_walk 153 = .ok (.aaload, 1) := by decide +kernel
theorem dX9_walk_154 : decode cX9_walk 154 = .ok (.invokestatic 140, 3) := by decide +kernel
theorem dX9_walk_157 : decode cX9_walk 157 = .ok (.goto 22, 3) := by decide +kernel
theorem dX9_walk_160 : decode cX9_walk 160 = .ok (.iload_n 3, 1) := by decide +kernel
theorem dX9_walk_161 : decode cX9_walk 161 = .ok (.iconst 1, 1) := by decide +kernel
theorem dX9_walk_162 : decode cX9_walk 162 = .ok (.if_icmp .ne 10, 3) := by decide +kernel
theorem dX9_walk_165 : decode cX9_walk 165 = .ok (.aload_n 0, 1) := by decide +kernel
theorem dX9_walk_166 : decode cX9_walk 166 = .ok (.getfield 107, 3) := by decide +kernel
theorem dX9_walk_169 : decode cX9_walk 169 = .ok (.goto 10, 3) := by decide +kernel
theorem dX9_walk_172 : decode cX9_walk 172 = .ok (.bipush 100, 2) := by decide +kernel
theorem dX9_walk_174 : decode cX9_walk 174 = .ok (.aload_n 0, 1) := by decide +kernel
theorem dX9_walk_175 : decode cX9_walk 175 = .ok (.invokevirtual 161, 3) := by decide +kernel
theorem dX9_walk_178 : decode cX9_walk 178 = .ok (.iadd, 1) := by decide +kernel
theorem dX9_walk_179 : decode cX9_walk 179 = .ok (.ireturn, 1) := by decide +kernel
theorem dX9_feed_0 : decode cX9_feed 0 = .ok (.iload_n 1, 1) := by decide +kernel
theorem dX9_feed_1 : decode cX9_feed 1 = .ok (.iconst 0, 1) := by decide +kernel
theorem dX9_feed_2 : decode cX9_feed 2 = .ok (.bipush 127, 2) := by decide +kernel
theorem dX9_feed_4 : decode cX9_feed 4 = .ok (.invokestatic 91, 3) := by decide +kernel
theorem dX9_feed_7 : decode cX9_feed 7 = .ok (.ifCond .ne 6, 3) := by decide +kernel
theorem dX9_feed_10 : decode cX9_feed 10 = .ok (.bipush (-2), 2) := by decide +kernel
theorem dX9_feed_12 : decode cX9_feed 12 = .ok (.ireturn, 1) := by decide +kernel
theorem dX9_feed_13 : decode cX9_feed 13 = .ok (.aload_n 0, 1) := by decide +kernel
theorem dX9_feed_14 : decode cX9_feed 14 = .ok (.getfield 243, 3) := by decide +kernel
theorem dX9_feed_17 : decode cX9_feed 17 = .ok (.bipush 120, 2) := by decide +kernel
theorem dX9_feed_19 : decode cX9_feed 19 = .ok (.if_icmp .ne 6, 3) := by decide +kernel
theorem dX9_feed_22 : decode cX9_feed 22 = .ok (.bipush (-4), 2) := by decide +kernel
theorem dX9_feed_24 : decode cX9_feed 24 = .ok (.ireturn, 1) := by decide +kernel
theorem dX9_feed_25 : decode cX9_feed 25 = .ok (.aload_n 0, 1) := by decide +kernel
theorem dX9_feed_26 : decode cX9_feed 26 = .ok (.getfield 63, 3) := by decide +kernel
theorem dX9_feed_29 : decode cX9_feed 29 = .ok (.aload_n 0, 1) := by decide +kernel
theorem dX9_feed_30 : decode cX9_feed 30 = .ok (.getfield 243, 3) := by decide +kernel
theorem dX9_feed_33 : decode cX9_feed 33 = .ok (.iload_n 1, 1) := by decide +kernel
theorem dX9_feed_34 : decode cX9_feed 34 = .ok (.i2b, 1) := by decide +kernel
theorem dX9_feed_35 : decode cX9_feed 35 = .ok (.bastore, 1) := by decide +kernel
theorem dX9_feed_36 : decode cX9_feed 36 = .ok (.aload_n 0, 1) := by decide +kernel
theorem dX9_feed_37 : decode cX9_feed 37 = .ok (.dup, 1) := by decide +kernel
theorem dX9_feed_38 : decode cX9_feed 38 = .ok (.getfield 243, 3) := by decide +kernel
theorem dX9_feed_41 : decode cX9_feed 41 = .ok (.iconst 1, 1) := by decide +kernel
theorem dX9_feed_42 : decode cX9_feed 42 = .ok (.iadd, 1) := by decide +kernel
theorem dX9_feed_43 : decode cX9_feed 43 = .ok (.putfield 243, 3) := by decide +kernel
theorem dX9_feed_46 : decode cX9_feed 46 = .ok (.aload_n 0, 1) := by decide +kernel
theorem dX9_feed_47 : decode cX9_feed 47 = .ok (.getfield 243, 3) := by decide +kernel
theorem dX9_feed_50 : decode cX9_feed 50 = .ok (.ireturn, 1) := by decide +kernel
theorem dX9_wordOf_0 : decode cX9_wordOf 0 = .ok (.iload_n 0, 1) := by decide +kernel
theorem dX9_wordOf_1 : decode cX9_wordOf 1 = .ok (.tableswitch 97 0 10 #[59, 62, 65, 68, 71, 74, 77, 81, 85, 89, 93], 59) := by decide +kernel
theorem dX9_wordOf_60 : decode cX9_wordOf 60 = .ok (.ldc 246, 2) := by decide +kernel
theorem dX9_wordOf_62 : decode cX9_wordOf 62 = .ok (.areturn, 1) := by decide +kernel
theorem dX9_wordOf_63 : decode cX9_wordOf 63 = .ok (.ldc 248, 2) := by decide +kernel
theorem dX9_wordOf_65 : decode cX9_wordOf 65 = .ok (.areturn, 1) := by decide +kernel
theorem dX9_wordOf_66 : decode cX9_wordOf 66 = .ok (.ldc 250, 2) := by decide +kernel
theorem dX9_wordOf_68 : decode cX9_wordOf 68 = .ok (.areturn, 1) := by decide +kernel
theorem dX9_wordOf_69 : decode cX9_wordOf 69 = .ok (.ldc 252, 2) := by decide +kernel
theorem dX9_wordOf_71 : decode cX9_wordOf 71 = .ok (.areturn, 1) := by decide +kernel
theorem dX9_wordOf_72 : decode cX9_wordOf 72 = .ok (.ldc 253, 2) := by decide +kernel
theorem dX9_wordOf_74 : decode cX9_wordOf 74 = .ok (.areturn, 1) := by decide +kernel
theorem dX9_wordOf_75 : decode cX9_wordOf 75 = .ok (.ldc 255, 2) := by decide +kernel
theorem dX9_wordOf_77 : decode cX9_wordOf 77 = .ok (.areturn, 1) := by decide +kernel
theorem dX9_wordOf_78 : decode cX9_wordOf 78 = .ok (.ldc_w 257, 3) := by decide +kernel
theorem dX9_wordOf_81 : decode cX9_wordOf 81 = .ok (.areturn, 1) := by decide +kernel
theorem dX9_wordOf_82 : decode cX9_wordOf 82 = .ok (.ldc_w 259, 3) := by decide +kernel
theorem dX9_wordOf_85 : decode cX9_wordOf 85 = .ok (.areturn, 1) := by decide +kernel
theorem dX9_wordOf_86 : decode cX9_wordOf 86 = .ok (.ldc_w 261, 3) := by decide +kernel
theorem dX9_wordOf_89 : decode cX9_wordOf 89 = .ok (.areturn, 1) := by decide +kernel
theorem dX9_wordOf_90 : decode cX9_wordOf 90 = .ok (.ldc_w 263, 3) := by decide +kernel
theorem dX9_wordOf_93 : decode cX9_wordOf 93 = .ok (.areturn, 1) := by decide +kernel
theorem dX9_wordOf_94 : decode cX9_wordOf 94 = .ok (.ldc_w 265, 3) := by decide +kernel
theorem dX9_wordOf_97 : decode cX9_wordOf 97 = .ok (.areturn, 1) := by decide +kernel
theorem dX9_wordOf_98 : decode cX9_wordOf 98 = .ok (.ldc_w 267, 3) := by decide +kernel
theorem dX9_wordOf_101 : decode cX9_wordOf 101 = .ok (.areturn, 1) := by decide +kernel
theorem dX9_areDigits_0 : decode cX9_areDigits 0 = .ok (.iload_n 0, 1) := by decide +kernel
theorem dX9_areDigits_1 : decode cX9_areDigits 1 = .ok (.bipush 9, 2) := by decide +kernel
theorem dX9_areDigits_3 : decode cX9_areDigits 3 = .ok (.if_icmp .ge 15, 3) := by decide +kernel
theorem dX9_areDigits_6 : decode cX9_areDigits 6 = .ok (.iload_n 1, 1) := by decide +kernel
theorem dX9_areDigits_7 : decode cX9_areDigits 7 = .ok (.ifCond .ne 7, 3) := by decide +kernel
theorem dX9_areDigits_10 : decode cX9_areDigits 10 = .ok (.iconst 1, 1) := by decide +kernel
theorem dX9_areDigits_11 : decode cX9_areDigits 11 = .ok (.goto 48, 3) := by decide +kernel
theorem dX9_areDigits_14 : decode cX9_areDigits 14 = .ok (.iconst 0, 1) := by decide +kernel
theorem dX9_areDigits_15 : decode cX9_areDigits 15 = .ok (.goto 44, 3) := by decide +kernel
theorem dX9_areDigits_18 : decode cX9_areDigits 18 = .ok (.iload_n 0, 1) := by decide +kernel
theorem dX9_areDigits_19 : decode cX9_areDigits 19 = .ok (.bipush 9, 2) := by decide +kernel
theorem dX9_areDigits_21 : decode cX9_areDigits 21 = .ok (.if_icmp .ne 12, 3) := by decide +kernel
theorem dX9_areDigits_24 : decode cX9_areDigits 24 = .ok (.iload_n 1, 1) := by decide +kernel
theorem dX9_areDigits_25 : decode cX9_areDigits 25 = .ok (.iconst 1, 1) := by decide +kernel
theorem dX9_areDigits_26 : decode cX9_areDigits 26 = .ok (.iconst 2, 1) := by decide +kernel
theorem dX9_areDigits_27 : decode cX9_areDigits 27 = .ok (.invokestatic 91, 3) := by decide +kernel
theorem dX9_areDigits_30 : decode cX9_areDigits 30 = .ok (.goto 29, 3) := by decide +kernel
theorem dX9_areDigits_33 : decode cX9_areDigits 33 = .ok (.iload_n 0, 1) := by decide +kernel
theorem dX9_areDigits_34 : decode cX9_areDigits 34 = .ok (.bipush 10, 2) := by decide +kernel
theorem dX9_areDigits_36 : decode cX9_areDigits 36 = .ok (.if_icmp .ne 16, 3) := by decide +kernel
theorem dX9_areDigits_39 : decode cX9_areDigits 39 = .ok (.iload_n 1, 1) := by decide +kernel
theorem dX9_areDigits_40 : decode cX9_areDigits 40 = .ok (.iconst 1, 1) := by decide +kernel
theorem dX9_areDigits_41 : decode cX9_areDigits 41 = .ok (.if_icmp .ne 7, 3) := by decide +kernel
theorem dX9_areDigits_44 : decode cX9_areDigits 44 = .ok (.iconst 1, 1) := by decide +kernel
theorem dX9_areDigits_45 : decode cX9_areDigits 45 = .ok (.goto 14, 3) := by decide +kernel
theorem dX9_areDigits_48 : decode cX9_areDigits 48 = .ok (.iconst 0, 1) := by decide +kernel
theorem dX9_areDigits_49 : decode cX9_areDigits 49 = .ok (.goto 10, 3) := by decide +kernel
theorem dX9_areDigits_52 : decode cX9_areDigits 52 = .ok (.iload_n 1, 1) := by decide +kernel
theorem dX9_areDigits_53 : decode cX9_areDigits 53 = .ok (.iconst 1, 1) := by decide +kernel
theorem dX9_areDigits_54 : decode cX9_areDigits 54 = .ok (.bipush 8, 2) := by decide +kernel
theorem dX9_areDigits_56 : decode cX9_areDigits 56 = .ok (.invokestatic 91, 3) := by decide +kernel
theorem dX9_areDigits_59 : decode cX9_areDigits 59 = .ok (.ireturn, 1) := by decide +kernel
theorem dX9_isLetter_0 : decode cX9_isLetter 0 = .ok (.iload_n 1, 1) := by decide +kernel
theorem dX9_isLetter_1 : decode cX9_isLetter 1 = .ok (.aload_n 0, 1) := by decide +kernel
theorem dX9_isLetter_2 : decode cX9_isLetter 2 = .ok (.getfield 243, 3) := by decide +kernel
theorem dX9_isLetter_5 : decode cX9_isLetter 5 = .ok (.if_icmp .ge 23, 3) := by decide +kernel
theorem dX9_isLetter_8 : decode cX9_isLetter 8 = .ok (.aload_n 0, 1) := by decide +kernel
theorem dX9_isLetter_9 : decode cX9_isLetter 9 = .ok (.getfield 63, 3) := by decide +kernel
theorem dX9_isLetter_12 : decode cX9_isLetter 12 = .ok (.iload_n 1, 1) := by decide +kernel
theorem dX9_isLetter_13 : decode cX9_isLetter 13 = .ok (.baload, 1) := by decide +kernel
theorem dX9_isLetter_14 : decode cX9_isLetter 14 = .ok (.bipush 97, 2) := by decide +kernel
theorem dX9_isLetter_16 : decode cX9_isLetter 16 = .ok (.bipush 122, 2) := by decide +kernel
theorem dX9_isLetter_18 : decode cX9_isLetter 18 = .ok (.invokestatic 91, 3) := by decide +kernel
theorem dX9_isLetter_21 : decode cX9_isLetter 21 = .ok (.ifCond .eq 7, 3) := by decide +kernel
theorem dX9_isLetter_24 : decode cX9_isLetter 24 = .ok (.iconst 1, 1) := by decide +kernel
theorem dX9_isLetter_25 : decode cX9_isLetter 25 = .ok (.goto 4, 3) := by decide +kernel
theorem dX9_isLetter_28 : decode cX9_isLetter 28 = .ok (.iconst 0, 1) := by decide +kernel
theorem dX9_isLetter_29 : decode cX9_isLetter 29 = .ok (.ireturn, 1) := by decide +kernel
theorem dX9_isDigit_0 : decode cX9_isDigit 0 = .ok (.iload_n 1, 1) := by decide +kernel
theorem dX9_isDigit_1 : decode cX9_isDigit 1 = .ok (.aload_n 0, 1) := by decide +kernel
theorem dX9_isDigit_2 : decode cX9_isDigit 2 = .ok (.getfield 243, 3) := by decide +kernel
theorem dX9_isDigit_5 : decode cX9_isDigit 5 = .ok (.if_icmp .ge 23, 3) := by decide +kernel
theorem dX9_isDigit_8 : decode cX9_isDigit 8 = .ok (.aload_n 0, 1) := by decide +kernel
theorem dX9_isDigit_9 : decode cX9_isDigit 9 = .ok (.getfield 63, 3) := by decide +kernel
theorem dX9_isDigit_12 : decode cX9_isDigit 12 = .ok (.iload_n 1, 1) := by decide +kernel
theorem dX9_isDigit_13 : decode cX9_isDigit 13 = .ok (.baload, 1) := by decide +kernel
theorem dX9_isDigit_14 : decode cX9_isDigit 14 = .ok (.bipush 48, 2) := by decide +kernel
theorem dX9_isDigit_16 : decode cX9_isDigit 16 = .ok (.bipush 57, 2) := by decide +kernel
theorem dX9_isDigit_18 : decode cX9_isDigit 18 = .ok (.invokestatic 91, 3) := by decide +kernel
theorem dX9_isDigit_21 : decode cX9_isDigit 21 = .ok (.ifCond .eq 7, 3) := by decide +kernel
theorem dX9_isDigit_24 : decode cX9_isDigit 24 = .ok (.iconst 1, 1) := by decide +kernel
theorem dX9_isDigit_25 : decode cX9_isDigit 25 = .ok (.goto 4, 3) := by decide +kernel
theorem dX9_isDigit_28 : decode cX9_isDigit 28 = .ok (.iconst 0, 1) := by decide +kernel
theorem dX9_isDigit_29 : decode cX9_isDigit 29 = .ok (.ireturn, 1) := by decide +kernel
theorem dX9_isWord_0 : decode cX9_isWord 0 = .ok (.iload_n 2, 1) := by decide +kernel
theorem dX9_isWord_1 : decode cX9_isWord 1 = .ok (.aload_n 0, 1) := by decide +kernel
theorem dX9_isWord_2 : decode cX9_isWord 2 = .ok (.getfield 269, 3) := by decide +kernel
theorem dX9_isWord_5 : decode cX9_isWord 5 = .ok (.isub, 1) := by decide +kernel
theorem dX9_isWord_6 : decode cX9_isWord 6 = .ok (.aload_n 1, 1) := by decide +kernel
theorem dX9_isWord_7 : decode cX9_isWord 7 = .ok (.invokevirtual 272, 3) := by decide +kernel
theorem dX9_isWord_10 : decode cX9_isWord 10 = .ok (.if_icmp .ne 7, 3) := by decide +kernel
theorem dX9_isWord_13 : decode cX9_isWord 13 = .ok (.iconst 1, 1) := by decide +kernel
theorem dX9_isWord_14 : decode cX9_isWord 14 = .ok (.goto 4, 3) := by decide +kernel
theorem dX9_isWord_17 : decode cX9_isWord 17 = .ok (.iconst 0, 1) := by decide +kernel
theorem dX9_isWord_18 : decode cX9_isWord 18 = .ok (.istore_n 3, 1) := by decide +kernel
theorem dX9_isWord_19 : decode cX9_isWord 19 = .ok (.aload_n 0, 1) := by decide +kernel
theorem dX9_isWord_20 : decode cX9_isWord 20 = .ok (.getfield 269, 3) := by decide +kernel
theorem dX9_isWord_23 : decode cX9_isWord 23 = .ok (.istore 4, 2) := by decide +kernel
theorem dX9_isWord_25 : decode cX9_isWord 25 = .ok (.iload_n 3, 1) := by decide +kernel
theorem dX9_isWord_26 : decode cX9_isWord 26 = .ok (.ifCond .eq 42, 3) := by decide +kernel
theorem dX9_isWord_29 : decode cX9_isWord 29 = .ok (.iload 4, 2) := by decide +kernel
theorem dX9_isWord_31 : decode cX9_isWord 31 = .ok (.iload_n 2, 1) := by decide +kernel
theorem dX9_isWord_32 : decode cX9_isWord 32 = .ok (.if_icmp .ge 36, 3) := by decide +kernel
theorem dX9_isWord_35 : decode cX9_isWord 35 = .ok (.aload_n 0, 1) := by decide +kernel
theorem dX9_isWord_36 : decode cX9_isWord 36 = .ok (.getfield 63, 3) := by decide +kernel
theorem dX9_isWord_39 : decode cX9_isWord 39 = .ok (.iload 4, 2) := by decide +kernel
theorem dX9_isWord_41 : decode cX9_isWord 41 = .ok (.baload, 1) := by decide +kernel
theorem dX9_isWord_42 : decode cX9_isWord 42 = .ok (.aload_n 1, 1) := by decide +kernel
theorem dX9_isWord_43 : decode cX9_isWord 43 = .ok (.iload 4, 2) := by decide +kernel
theorem dX9_isWord_45 : decode cX9_isWord 45 = .ok (.aload_n 0, 1) := by decide +kernel
theorem dX9_isWord_46 : decode cX9_isWord 46 = .ok (.getfield 269, 3) := by decide +kernel
theorem dX9_isWord_49 : decode cX9_isWord 49 = .ok (.isub, 1) := by decide +kernel
theorem dX9_isWord_50 : decode cX9_isWord 50 = .ok (.invokevirtual 277, 3) := by decide +kernel
theorem dX9_isWord_53 : decode cX9_isWord 53 = .ok (.if_icmp .ne 7, 3) := by decide +kernel
theorem dX9_isWord_56 : decode cX9_isWord 56 = .ok (.iconst 1, 1) := by decide +kernel
theorem dX9_isWord_57 : decode cX9_isWord 57 = .ok (.goto 4, 3) := by decide +kernel
theorem dX9_isWord_60 : decode cX9_isWord 60 = .ok (.iconst 0, 1) := by decide +kernel
theorem dX9_isWord_61 : decode cX9_isWord 61 = .ok (.istore_n 3, 1) := by decide +kernel
theorem dX9_isWord_62 : decode cX9_isWord 62 = .ok (.iinc 4 1, 3) := by decide +kernel
theorem dX9_isWord_65 : decode cX9_isWord 65 = .ok (.goto (-40), 3) := by decide +kernel
theorem dX9_isWord_68 : decode cX9_isWord 68 = .ok (.iload_n 3, 1) := by decide +kernel
theorem dX9_isWord_69 : decode cX9_isWord 69 = .ok (.ireturn, 1) := by decide +kernel
theorem dX9_takesWord_0 : decode cX9_takesWord 0 = .ok (.aload_n 0, 1) := by decide +kernel
theorem dX9_takesWord_1 : decode cX9_takesWord 1 = .ok (.getfield 269, 3) := by decide +kernel
theorem dX9_takesWord_4 : decode cX9_takesWord 4 = .ok (.istore_n 1, 1) := by decide +kernel
theorem dX9_takesWord_5 : decode cX9_takesWord 5 = .ok (.aload_n 0, 1) := by decide +kernel
theorem dX9_takesWord_6 : decode cX9_takesWord 6 = .ok (.iload_n 1, 1) := by decide +kernel
theorem dX9_takesWord_7 : decode cX9_takesWord 7 = .ok (.invokevirtual 281, 3) := by decide +kernel
theorem dX9_takesWord_10 : decode cX9_takesWord 10 = .ok (.ifCond .eq 9, 3) := by decide +kernel
theorem dX9_takesWord_13 : decode cX9_takesWord 13 = .ok (.iinc 1 1, 3) := by decide +kernel
theorem dX9_takesWord_16 : decode cX9_takesWord 16 = .ok (.goto (-11), 3) := by decide +kernel
theorem dX9_takesWord_19 : decode cX9_takesWord 19 = .ok (.iconst 0, 1) := by decide +kernel
theorem dX9_takesWord_20 : decode cX9_takesWord 20 = .ok (.istore_n 2, 1) := by decide +kernel
theorem dX9_takesWord_21 : decode cX9_takesWord 21 = .ok (.iload_n 2, 1) := by decide +kernel
theorem dX9_takesWord_22 : decode cX9_takesWord 22 = .ok (.bipush 12, 2) := by decide +kernel
theorem dX9_takesWord_24 : decode cX9_takesWord 24 = .ok (.if_icmp .ge 21, 3) := by decide +kernel
theorem dX9_takesWord_27 : decode cX9_takesWord 27 = .ok (.aload_n 0, 1) := by decide +kernel
theorem dX9_takesWord_28 : decode cX9_takesWord 28 = .ok (.iload_n 2, 1) := by decide +kernel
theorem dX9_takesWord_29 : decode cX9_takesWord 29 = .ok (.invokestatic 284, 3) := by decide +kernel
theorem dX9_takesWord_32 : decode cX9_takesWord 32 = .ok (.iload_n 1, 1) := by decide +kernel
theorem dX9_takesWord_33 : decode cX9_takesWord 33 = .ok (.invokevirtual 288, 3) := by decide +kernel
theorem dX9_takesWord_36 : decode cX9_takesWord 36 = .ok (.ifCond .ne 9, 3) := by decide +kernel
theorem dX9_takesWord_39 : decode cX9_takesWord 39 = .ok (.iinc 2 1, 3) := by decide +kernel
theorem dX9_takesWord_42 : decode cX9_takesWord 42 = .ok (.goto (-21), 3) := by decide +kernel
theorem dX9_takesWord_45 : decode cX9_takesWord 45 = .ok (.iload_n 1, 1) := by decide +kernel
theorem dX9_takesWord_46 : decode cX9_takesWord 46 = .ok (.istore_n 3, 1) := by decide +kernel
theorem dX9_takesWord_47 : decode cX9_takesWord 47 = .ok (.aload_n 0, 1) := by decide +kernel
theorem dX9_takesWord_48 : decode cX9_takesWord 48 = .ok (.iload_n 3, 1) := by decide +kernel
theorem dX9_takesWord_49 : decode cX9_takesWord 49 = .ok (.invokevirtual 292, 3) := by decide +kernel
theorem dX9_takesWord_52 : decode cX9_takesWord 52 = .ok (.ifCond .eq 9, 3) := by decide +kernel
theorem dX9_takesWord_55 : decode cX9_takesWord 55 = .ok (.iinc 3 1, 3) := by decide +kernel
theorem dX9_takesWord_58 : decode cX9_takesWord 58 = .ok (.goto (-11), 3) := by decide +kernel
theorem dX9_takesWord_61 : decode cX9_takesWord 61 = .ok (.iload_n 1, 1) := by decide +kernel
theorem dX9_takesWord_62 : decode cX9_takesWord 62 = .ok (.aload_n 0, 1) := by decide +kernel
theorem dX9_takesWord_63 : decode cX9_takesWord 63 = .ok (.getfield 269, 3) := by decide +kernel
theorem dX9_takesWord_66 : decode cX9_takesWord 66 = .ok (.if_icmp .eq 19, 3) := by decide +kernel
theorem dX9_takesWord_69 : decode cX9_takesWord 69 = .ok (.iload_n 2, 1) := by decide +kernel
theorem dX9_takesWord_70 : decode cX9_takesWord 70 = .ok (.bipush 12, 2) := by decide +kernel
theorem dX9_takesWord_72 : decode cX9_takesWord 72 = .ok (.if_icmp .eq 13, 3) := by decide +kernel
theorem dX9_takesWord_75 : decode cX9_takesWord 75 = .ok (.iload_n 2, 1) := by decide +kernel
theorem dX9_takesWord_76 : decode cX9_takesWord 76 = .ok (.iload_n 3, 1) := by decide +kernel
theorem dX9_takesWord_77 : decode cX9_takesWord 77 = .ok (.iload_n 1, 1) := by decide +kernel
theorem dX9_takesWord_78 : decode cX9_takesWord 78 = .ok (.isub, 1) := by decide +kernel
theorem dX9_takesWord_79 : decode cX9_takesWord 79 = .ok (.invokestatic 295, 3) := by decide +kernel
theorem dX9_takesWord_82 : decode cX9_takesWord 82 = .ok (.ifCond .ne 5, 3) := by decide +kernel
theorem dX9_takesWord_85 : decode cX9_takesWord 85 = .ok (.iconst 0, 1) := by decide +kernel
theorem dX9_takesWord_86 : decode cX9_takesWord 86 = .ok (.ireturn, 1) := by decide +kernel
theorem dX9_takesWord_87 : decode cX9_takesWord 87 = .ok (.aload_n 0, 1) := by decide +kernel
theorem dX9_takesWord_88 : decode cX9_takesWord 88 = .ok (.getfield 67, 3) := by decide +kernel
theorem dX9_takesWord_91 : decode cX9_takesWord 91 = .ok (.aload_n 0, 1) := by decide +kernel
theorem dX9_takesWord_92 : decode cX9_takesWord 92 = .ok (.getfield 298, 3) := by decide +kernel
theorem dX9_takesWord_95 : decode cX9_takesWord 95 = .ok (.iload_n 2, 1) := by decide +kernel
theorem dX9_takesWord_96 : decode cX9_takesWord 96 = .ok (.iastore, 1) := by decide +kernel
theorem dX9_takesWord_97 : decode cX9_takesWord 97 = .ok (.aload_n 0, 1) := by decide +kernel
theorem dX9_takesWord_98 : decode cX9_takesWord 98 = .ok (.getfield 70, 3) := by decide +kernel
theorem dX9_takesWord_101 : decode cX9_takesWord 101 = .ok (.aload_n 0, 1) := by decide +kernel
theorem dX9_takesWord_102 : decode cX9_takesWord 102 = .ok (.getfield 298, 3) := by decide +kernel
theorem dX9_takesWord_105 : decode cX9_takesWord 105 = .ok (.iload_n 2, 1) := by decide +kernel
theorem dX9_takesWord_106 : decode cX9_takesWord 106 = .ok (.bipush 11, 2) := by decide +kernel
theorem dX9_takesWord_108 : decode cX9_takesWord 108 = .ok (.if_icmp .ne 12, 3) := by decide +kernel
theorem dX9_takesWord_111 : decode cX9_takesWord 111 = .ok (.aload_n 0, 1) := by decide +kernel
theorem dX9_takesWord_112 : decode cX9_takesWord 112 = .ok (.iload_n 1, 1) := by decide +kernel
theorem dX9_takesWord_113 : decode cX9_takesWord 113 = .ok (.iload_n 3, 1) := by decide +kernel
theorem dX9_takesWord_114 : decode cX9_takesWord 114 = .ok (.invokevirtual 301, 3) := by decide +kernel
theorem dX9_takesWord_117 : decode cX9_takesWord 117 = .ok (.goto 9, 3) := by decide +kernel
theorem dX9_takesWord_120 : decode cX9_takesWord 120 = .ok (.aload_n 0, 1) := by decide +kernel
theorem dX9_takesWord_121 : decode cX9_takesWord 121 = .ok (.iload_n 1, 1) := by decide +kernel
theorem dX9_takesWord_122 : decode cX9_takesWord 122 = .ok (.iload_n 3, 1) := by decide +kernel
theorem dX9_takesWord_123 : decode cX9_takesWord 123 = .ok (.invokevirtual 304, 3) := by decide +kernel
theorem dX9_takesWord_126 : decode cX9_takesWord 126 = .ok (.iastore, 1) := by decide +kernel
theorem dX9_takesWord_127 : decode cX9_takesWord 127 = .ok (.aload_n 0, 1) := by decide +kernel
theorem dX9_takesWord_128 : decode cX9_takesWord 128 = .ok (.dup, 1) := by decide +kernel
theorem dX9_takesWord_129 : decode cX9_takesWord 129 = .ok (.getfield 298, 3) := by decide +kernel
theorem dX9_takesWord_132 : decode cX9_takesWord 132 = .ok (.iconst 1, 1) := by decide +kernel
theorem dX9_takesWord_133 : decode cX9_takesWord 133 = .ok (.iadd, 1) := by decide +kernel
theorem dX9_takesWord_134 : decode cX9_takesWord 134 = .ok (.putfield 298, 3) := by decide +kernel
theorem dX9_takesWord_137 : decode cX9_takesWord 137 = .ok (.aload_n 0, 1) := by decide +kernel
theorem dX9_takesWord_138 : decode cX9_takesWord 138 = .ok (.iload_n 3, 1) := by decide +kernel
theorem dX9_takesWord_139 : decode cX9_takesWord 139 = .ok (.putfield 269, 3) := by decide +kernel
theorem dX9_takesWord_142 : decode cX9_takesWord 142 = .ok (.iconst 1, 1) := by decide +kernel
theorem dX9_takesWord_143 : decode cX9_takesWord 143 = .ok (.ireturn, 1) := by decide +kernel
theorem dX9_numberOf_0 : decode cX9_numberOf 0 = .ok (.iconst 0, 1) := by decide +kernel
theorem dX9_numberOf_1 : decode cX9_numberOf 1 = .ok (.istore_n 3, 1) := by decide +kernel
theorem dX9_numberOf_2 : decode cX9_numberOf 2 = .ok (.iload_n 1, 1) := by decide +kernel
theorem dX9_numberOf_3 : decode cX9_numberOf 3 = .ok (.istore 4, 2) := by decide +kernel
theorem dX9_numberOf_5 : decode cX9_numberOf 5 = .ok (.iload 4, 2) := by decide +kernel
theorem dX9_numberOf_7 : decode cX9_numberOf 7 = .ok (.iload_n 2, 1) := by decide +kernel
theorem dX9_numberOf_8 : decode cX9_numberOf 8 = .ok (.if_icmp .ge 25, 3) := by decide +kernel
theorem dX9_numberOf_11 : decode cX9_numberOf 11 = .ok (.bipush 10, 2) := by decide +kernel
theorem dX9_numberOf_13 : decode cX9_numberOf 13 = .ok (.iload_n 3, 1) := by decide +kernel
theorem dX9_numberOf_14 : decode cX9_numberOf 14 = .ok (.imul, 1) := by decide +kernel
theorem dX9_numberOf_15 : decode cX9_numberOf 15 = .ok (.aload_n 0, 1) := by decide +kernel
theorem dX9_numberOf_16 : decode cX9_numberOf 16 = .ok (.getfield 63, 3) := by decide +kernel
theorem dX9_numberOf_19 : decode cX9_numberOf 19 = .ok (.iload 4, 2) := by decide +kernel
theorem dX9_numberOf_21 : decode cX9_numberOf 21 = .ok (.baload, 1) := by decide +kernel
theorem dX9_numberOf_22 : decode cX9_numberOf 22 = .ok (.iadd, 1) := by decide +kernel
theorem dX9_numberOf_23 : decode cX9_numberOf 23 = .ok (.bipush 48, 2) := by decide +kernel
theorem dX9_numberOf_25 : decode cX9_numberOf 25 = .ok (.isub, 1) := by decide +kernel
theorem dX9_numberOf_26 : decode cX9_numberOf 26 = .ok (.istore_n 3, 1) := by decide +kernel
theorem dX9_numberOf_27 : decode cX9_numberOf 27 = .ok (.iinc 4 1, 3) := by decide +kernel
theorem dX9_numberOf_30 : decode cX9_numberOf 30 = .ok (.goto (-25), 3) := by decide +kernel
theorem dX9_numberOf_33 : decode cX9_numberOf 33 = .ok (.iload_n 3, 1) := by decide +kernel
theorem dX9_numberOf_34 : decode cX9_numberOf 34 = .ok (.ireturn, 1) := by decide +kernel
theorem dX9_setOf_0 : decode cX9_setOf 0 = .ok (.iconst 0, 1) := by decide +kernel
theorem dX9_setOf_1 : decode cX9_setOf 1 = .ok (.istore_n 3, 1) := by decide +kernel
theorem dX9_setOf_2 : decode cX9_setOf 2 = .ok (.iload_n 1, 1) := by decide +kernel
theorem dX9_setOf_3 : decode cX9_setOf 3 = .ok (.istore 4, 2) := by decide +kernel
theorem dX9_setOf_5 : decode cX9_setOf 5 = .ok (.iload 4, 2) := by decide +kernel
theorem dX9_setOf_7 : decode cX9_setOf 7 = .ok (.iload_n 2, 1) := by decide +kernel
theorem dX9_setOf_8 : decode cX9_setOf 8 = .ok (.if_icmp .ge 38, 3) := by decide +kernel
theorem dX9_setOf_11 : decode cX9_setOf 11 = .ok (.aload_n 0, 1) := by decide +kernel
theorem dX9_setOf_12 : decode cX9_setOf 12 = .ok (.getfield 63, 3) := by decide +kernel
theorem dX9_setOf_15 : decode cX9_setOf 15 = .ok (.iload 4, 2) := by decide +kernel
theorem dX9_setOf_17 : decode cX9_setOf 17 = .ok (.baload, 1) := by decide +kernel
theorem dX9_setOf_18 : decode cX9_setOf 18 = .ok (.bipush 55, 2) := by decide +kernel
theorem dX9_setOf_20 : decode cX9_setOf 20 = .ok (.if_icmp .le 5, 3) := by decide +kernel
theorem dX9_setOf_23 : decode cX9_setOf 23 = .ok (.iconst 0, 1) := by decide +kernel
theorem dX9_setOf_24 : decode cX9_setOf 24 = .ok (.ireturn, 1) := by decide +kernel
theorem dX9_setOf_25 : decode cX9_setOf 25 = .ok (.iload_n 3, 1) := by decide +kernel
theorem dX9_setOf_26 : decode cX9_setOf 26 = .ok (.iconst 1, 1) := by decide +kernel
theorem dX9_setOf_27 : decode cX9_setOf 27 = .ok (.aload_n 0, 1) := by decide +kernel
theorem dX9_setOf_28 : decode cX9_setOf 28 = .ok (.getfield 63, 3) := by decide +kernel
theorem dX9_setOf_31 : decode cX9_setOf 31 = .ok (.iload 4, 2) := by decide +kernel
theorem dX9_setOf_33 : decode cX9_setOf 33 = .ok (.baload, 1) := by decide +kernel
theorem dX9_setOf_34 : decode cX9_setOf 34 = .ok (.bipush 48, 2) := by decide +kernel
theorem dX9_setOf_36 : decode cX9_setOf 36 = .ok (.isub, 1) := by decide +kernel
theorem dX9_setOf_37 : decode cX9_setOf 37 = .ok (.ishl, 1) := by decide +kernel
theorem dX9_setOf_38 : decode cX9_setOf 38 = .ok (.ior, 1) := by decide +kernel
theorem dX9_setOf_39 : decode cX9_setOf 39 = .ok (.istore_n 3, 1) := by decide +kernel
theorem dX9_setOf_40 : decode cX9_setOf 40 = .ok (.iinc 4 1, 3) := by decide +kernel
theorem dX9_setOf_43 : decode cX9_setOf 43 = .ok (.goto (-38), 3) := by decide +kernel
theorem dX9_setOf_46 : decode cX9_setOf 46 = .ok (.iload_n 3, 1) := by decide +kernel
theorem dX9_setOf_47 : decode cX9_setOf 47 = .ok (.ireturn, 1) := by decide +kernel
theorem dX9_takesAll_0 : decode cX9_takesAll 0 = .ok (.aload_n 0, 1) := by decide +kernel
theorem dX9_takesAll_1 : decode cX9_takesAll 1 = .ok (.iconst 0, 1) := by decide +kernel
theorem dX9_takesAll_2 : decode cX9_takesAll 2 = .ok (.putfield 269, 3) := by decide +kernel
theorem dX9_takesAll_5 : decode cX9_takesAll 5 = .ok (.aload_n 0, 1) := by decide +kernel
theorem dX9_takesAll_6 : decode cX9_takesAll 6 = .ok (.iconst 0, 1) := by decide +kernel
theorem dX9_takesAll_7 : decode cX9_takesAll 7 = .ok (.putfield 298, 3) := by decide +kernel
theorem dX9_takesAll_10 : decode cX9_takesAll 10 = .ok (.aload_n 0, 1) := by decide +kernel
theorem dX9_takesAll_11 : decode cX9_takesAll 11 = .ok (.invokevirtual 307, 3) := by decide +kernel
theorem dX9_takesAll_14 : decode cX9_takesAll 14 = .ok (.ifCond .ne 5, 3) := by decide +kernel
theorem dX9_takesAll_17 : decode cX9_takesAll 17 = .ok (.iconst 0, 1) := by decide +kernel
theorem dX9_takesAll_18 : decode cX9_takesAll 18 = .ok (.ireturn, 1) := by decide +kernel
theorem dX9_takesAll_19 : decode cX9_takesAll 19 = .ok (.aload_n 0, 1) := by decide +kernel
theorem dX9_takesAll_20 : decode cX9_takesAll 20 = .ok (.getfield 269, 3) := by decide +kernel
theorem dX9_takesAll_23 : decode cX9_takesAll 23 = .ok (.aload_n 0, 1) := by decide +kernel
theorem dX9_takesAll_24 : decode cX9_takesAll 24 = .ok (.getfield 243, 3) := by decide +kernel
theorem dX9_takesAll_27 : decode cX9_takesAll 27 = .ok (.if_icmp .ge 47, 3) := by decide +kernel
theorem dX9_takesAll_30 : decode cX9_takesAll 30 = .ok (.aload_n 0, 1) := by decide +kernel
theorem dX9_takesAll_31 : decode cX9_takesAll 31 = .ok (.getfield 63, 3) := by decide +kernel
theorem dX9_takesAll_34 : decode cX9_takesAll 34 = .ok (.aload_n 0, 1) := by decide +kernel
theorem dX9_takesAll_35 : decode cX9_takesAll 35 = .ok (.getfield 269, 3) := by decide +kernel
theorem dX9_takesAll_38 : decode cX9_takesAll 38 = .ok (.baload, 1) := by decide +kernel
theorem dX9_takesAll_39 : decode cX9_takesAll 39 = .ok (.bipush 32, 2) := by decide +kernel
theorem dX9_takesAll_41 : decode cX9_takesAll 41 = .ok (.if_icmp .ne 12, 3) := by decide +kernel
theorem dX9_takesAll_44 : decode cX9_takesAll 44 = .ok (.aload_n 0, 1) := by decide +kernel
theorem dX9_takesAll_45 : decode cX9_takesAll 45 = .ok (.getfield 298, 3) := by decide +kernel
theorem dX9_takesAll_48 : decode cX9_takesAll 48 = .ok (.bipush 12, 2) := by decide +kernel
theorem dX9_takesAll_50 : decode cX9_takesAll 50 = .ok (.if_icmp .ne 5, 3) := by decide +kernel
theorem dX9_takesAll_53 : decode cX9_takesAll 53 = .ok (.iconst 0, 1) := by decide +kernel
theorem dX9_takesAll_54 : decode cX9_takesAll 54 = .ok (.ireturn, 1) := by decide +kernel
theorem dX9_takesAll_55 : decode cX9_takesAll 55 = .ok (.aload_n 0, 1) := by decide +kernel
theorem dX9_takesAll_56 : decode cX9_takesAll 56 = .ok (.dup, 1) := by decide +kernel
theorem dX9_takesAll_57 : decode cX9_takesAll 57 = .ok (.getfield 269, 3) := by decide +kernel
theorem dX9_takesAll_60 : decode cX9_takesAll 60 = .ok (.iconst 1, 1) := by decide +kernel
theorem dX9_takesAll_61 : decode cX9_takesAll 61 = .ok (.iadd, 1) := by decide +kernel
theorem dX9_takesAll_62 : decode cX9_takesAll 62 = .ok (.putfield 269, 3) := by decide +kernel
theorem dX9_takesAll_65 : decode cX9_takesAll 65 = .ok (.aload_n 0, 1) := by decide +kernel
theorem dX9_takesAll_66 : decode cX9_takesAll 66 = .ok (.invokevirtual 307, 3) := by decide +kernel
theorem dX9_takesAll_69 : decode cX9_takesAll 69 = .ok (.ifCond .ne (-50), 3) := by decide +kernel
theorem dX9_takesAll_72 : decode cX9_takesAll 72 = .ok (.iconst 0, 1) := by decide +kernel
theorem dX9_takesAll_73 : decode cX9_takesAll 73 = .ok (.ireturn, 1) := by decide +kernel
theorem dX9_takesAll_74 : decode cX9_takesAll 74 = .ok (.iconst 1, 1) := by decide +kernel
theorem dX9_takesAll_75 : decode cX9_takesAll 75 = .ok (.ireturn, 1) := by decide +kernel
theorem dX9_isDone_0 : decode cX9_isDone 0 = .ok (.aload_n 0, 1) := by decide +kernel
theorem dX9_isDone_1 : decode cX9_isDone 1 = .ok (.getfield 67, 3) := by decide +kernel
theorem dX9_isDone_4 : decode cX9_isDone 4 = .ok (.iload_n 1, 1) := by decide +kernel
theorem dX9_isDone_5 : decode cX9_isDone 5 = .ok (.iaload, 1) := by decide +kernel
theorem dX9_isDone_6 : decode cX9_isDone 6 = .ok (.istore_n 2, 1) := by decide +kernel
theorem dX9_isDone_7 : decode cX9_isDone 7 = .ok (.iload_n 2, 1) := by decide +kernel
theorem dX9_isDone_8 : decode cX9_isDone 8 = .ok (.bipush 6, 2) := by decide +kernel
theorem dX9_isDone_10 : decode cX9_isDone 10 = .ok (.if_icmp .ge 17, 3) := by decide +kernel
theorem dX9_isDone_13 : decode cX9_isDone 13 = .ok (.aload_n 0, 1) := by decide +kernel
theorem dX9_isDone_14 : decode cX9_isDone 14 = .ok (.iload_n 2, 1) := by decide +kernel
theorem dX9_isDone_15 : decode cX9_isDone 15 = .ok (.invokevirtual 310, 3) := by decide +kernel
theorem dX9_isDone_18 : decode cX9_isDone 18 = .ok (.ifCond .lt 7, 3) := by decide +kernel
theorem dX9_isDone_21 : decode cX9_isDone 21 = .ok (.iconst 1, 1) := by decide +kernel
theorem dX9_isDone_22 : decode cX9_isDone 22 = .ok (.goto 4, 3) := by decide +kernel
theorem dX9_isDone_25 : decode cX9_isDone 25 = .ok (.iconst 0, 1) := by decide +kernel
theorem dX9_isDone_26 : decode cX9_isDone 26 = .ok (.ireturn, 1) := by decide +kernel
theorem dX9_isDone_27 : decode cX9_isDone 27 = .ok (.iload_n 2, 1) := by decide +kernel
theorem dX9_isDone_28 : decode cX9_isDone 28 = .ok (.tableswitch 115 6 10 #[36, 50, 64, 77, 96], 36) := by decide +kernel
theorem dX9_isDone_64 : decode cX9_isDone 64 = .ok (.aload_n 0, 1) := by decide +kernel
theorem dX9_isDone_65 : decode cX9_isDone 65 = .ok (.iconst 3, 1) := by decide +kernel
theorem dX9_isDone_66 : decode cX9_isDone 66 = .ok (.invokevirtual 313, 3) := by decide +kernel
theorem dX9_isDone_69 : decode cX9_isDone 69 = .ok (.ifCond .lt 7, 3) := by decide +kernel
theorem dX9_isDone_72 : decode cX9_isDone 72 = .ok (.iconst 1, 1) := by decide +kernel
theorem dX9_isDone_73 : decode cX9_isDone 73 = .ok (.goto 4, 3) := by decide +kernel
theorem dX9_isDone_76 : decode cX9_isDone 76 = .ok (.iconst 0, 1) := by decide +kernel
theorem dX9_isDone_77 : decode cX9_isDone 77 = .ok (.ireturn, 1) := by decide +kernel
theorem dX9_isDone_78 : decode cX9_isDone 78 = .ok (.aload_n 0, 1) := by decide +kernel
theorem dX9_isDone_79 : decode cX9_isDone 79 = .ok (.iconst 4, 1) := by decide +kernel
theorem dX9_isDone_80 : decode cX9_isDone 80 = .ok (.invokevirtual 313, 3) := by decide +kernel
theorem dX9_isDone_83 : decode cX9_isDone 83 = .ok (.ifCond .lt 7, 3) := by decide +kernel
theorem dX9_isDone_86 : decode cX9_isDone 86 = .ok (.iconst 1, 1) := by decide +kernel
theorem dX9_isDone_87 : decode cX9_isDone 87 = .ok (.goto 4, 3) := by decide +kernel
theorem dX9_isDone_90 : decode cX9_isDone 90 = .ok (.iconst 0, 1) := by decide +kernel
theorem dX9_isDone_91 : decode cX9_isDone 91 = .ok (.ireturn, 1) := by decide +kernel
theorem dX9_isDone_92 : decode cX9_isDone 92 = .ok (.aload_n 0, 1) := by decide +kernel
theorem dX9_isDone_93 : decode cX9_isDone 93 = .ok (.invokevirtual 316, 3) := by decide +kernel
theorem dX9_isDone_96 : decode cX9_isDone 96 = .ok (.ifCond .lt 7, 3) := by decide +kernel
theorem dX9_isDone_99 : decode cX9_isDone 99 = .ok (.iconst 1, 1) := by decide +kernel
theorem dX9_isDone_100 : decode cX9_isDone 100 = .ok (.goto 4, 3) := by decide +kernel
theorem dX9_isDone_103 : decode cX9_isDone 103 = .ok (.iconst 0, 1) := by decide +kernel
theorem dX9_isDone_104 : decode cX9_isDone 104 = .ok (.ireturn, 1) := by decide +kernel
theorem dX9_isDone_105 : decode cX9_isDone 105 = .ok (.aload_n 0, 1) := by decide +kernel
theorem dX9_isDone_106 : decode cX9_isDone 106 = .ok (.aload_n 0, 1) := by decide +kernel
theorem dX9_isDone_107 : decode cX9_isDone 107 = .ok (.getfield 70, 3) := by decide +kernel
theorem dX9_isDone_110 : decode cX9_isDone 110 = .ok (.iload_n 1, 1) := by decide +kernel
theorem dX9_isDone_111 : decode cX9_isDone 111 = .ok (.iaload, 1) := by decide +kernel
theorem dX9_isDone_112 : decode cX9_isDone 112 = .ok (.invokevirtual 318, 3) := by decide +kernel
theorem dX9_isDone_115 : decode cX9_isDone 115 = .ok (.ifCond .lt 7, 3) := by decide +kernel
theorem dX9_isDone_118 : decode cX9_isDone 118 = .ok (.iconst 1, 1) := by decide +kernel
theorem dX9_isDone_119 : decode cX9_isDone 119 = .ok (.goto 4, 3) := by decide +kernel
theorem dX9_isDone_122 : decode cX9_isDone 122 = .ok (.iconst 0, 1) := by decide +kernel
theorem dX9_isDone_123 : decode cX9_isDone 123 = .ok (.ireturn, 1) := by decide +kernel
theorem dX9_isDone_124 : decode cX9_isDone 124 = .ok (.aload_n 0, 1) := by decide +kernel
theorem dX9_isDone_125 : decode cX9_isDone 125 = .ok (.aload_n 0, 1) := by decide +kernel
theorem dX9_isDone_126 : decode cX9_isDone 126 = .ok (.getfield 70, 3) := by decide +kernel
theorem dX9_isDone_129 : decode cX9_isDone 129 = .ok (.iload_n 1, 1) := by decide +kernel
theorem dX9_isDone_130 : decode cX9_isDone 130 = .ok (.iaload, 1) := by decide +kernel
theorem dX9_isDone_131 : decode cX9_isDone 131 = .ok (.invokevirtual 320, 3) := by decide +kernel
theorem dX9_isDone_134 : decode cX9_isDone 134 = .ok (.ifCond .lt 7, 3) := by decide +kernel
theorem dX9_isDone_137 : decode cX9_isDone 137 = .ok (.iconst 1, 1) := by decide +kernel
theorem dX9_isDone_138 : decode cX9_isDone 138 = .ok (.goto 4, 3) := by decide +kernel
theorem dX9_isDone_141 : decode cX9_isDone 141 = .ok (.iconst 0, 1) := by decide +kernel
theorem dX9_isDone_142 : decode cX9_isDone 142 = .ok (.ireturn, 1) := by decide +kernel
theorem dX9_isDone_143 : decode cX9_isDone 143 = .ok (.aload_n 0, 1) := by decide +kernel
theorem dX9_isDone_144 : decode cX9_isDone 144 = .ok (.aload_n 0, 1) := by decide +kernel
theorem dX9_isDone_145 : decode cX9_isDone 145 = .ok (.getfield 70, 3) := by decide +kernel
theorem dX9_isDone_148 : decode cX9_isDone 148 = .ok (.iload_n 1, 1) := by decide +kernel
theorem dX9_isDone_149 : decode cX9_isDone 149 = .ok (.iaload, 1) := by decide +kernel
theorem dX9_isDone_150 : decode cX9_isDone 150 = .ok (.invokevirtual 322, 3) := by decide +kernel
theorem dX9_isDone_153 : decode cX9_isDone 153 = .ok (.ifCond .lt 7, 3) := by decide +kernel
theorem dX9_isDone_156 : decode cX9_isDone 156 = .ok (.iconst 1, 1) := by decide +kernel
theorem dX9_isDone_157 : decode cX9_isDone 157 = .ok (.goto 4, 3) := by decide +kernel
theorem dX9_isDone_160 : decode cX9_isDone 160 = .ok (.iconst 0, 1) := by decide +kernel
theorem dX9_isDone_161 : decode cX9_isDone 161 = .ok (.ireturn, 1) := by decide +kernel
theorem dX9_read_0 : decode cX9_read 0 = .ok (.aload_n 0, 1) := by decide +kernel
theorem dX9_read_1 : decode cX9_read 1 = .ok (.invokevirtual 324, 3) := by decide +kernel
theorem dX9_read_4 : decode cX9_read 4 = .ok (.istore_n 1, 1) := by decide +kernel
theorem dX9_read_5 : decode cX9_read 5 = .ok (.aload_n 0, 1) := by decide +kernel
theorem dX9_read_6 : decode cX9_read 6 = .ok (.iconst 0, 1) := by decide +kernel
theorem dX9_read_7 : decode cX9_read 7 = .ok (.putfield 243, 3) := by decide +kernel
theorem dX9_read_10 : decode cX9_read 10 = .ok (.iload_n 1, 1) := by decide +kernel
theorem dX9_read_11 : decode cX9_read 11 = .ok (.ifCond .ne 11, 3) := by decide +kernel
theorem dX9_read_14 : decode cX9_read 14 = .ok (.bipush (-100), 2) := by decide +kernel
theorem dX9_read_16 : decode cX9_read 16 = .ok (.aload_n 0, 1) := by decide +kernel
theorem dX9_read_17 : decode cX9_read 17 = .ok (.getfield 269, 3) := by decide +kernel
theorem dX9_read_20 : decode cX9_read 20 = .ok (.isub, 1) := by decide +kernel
theorem dX9_read_21 : decode cX9_read 21 = .ok (.ireturn, 1) := by decide +kernel
theorem dX9_read_22 : decode cX9_read 22 = .ok (.iconst 0, 1) := by decide +kernel
theorem dX9_read_23 : decode cX9_read 23 = .ok (.istore_n 2, 1) := by decide +kernel
theorem dX9_read_24 : decode cX9_read 24 = .ok (.iconst 0, 1) := by decide +kernel
theorem dX9_read_25 : decode cX9_read 25 = .ok (.istore_n 3, 1) := by decide +kernel
theorem dX9_read_26 : decode cX9_read 26 = .ok (.iload_n 3, 1) := by decide +kernel
theorem dX9_read_27 : decode cX9_read 27 = .ok (.aload_n 0, 1) := by decide +kernel
theorem dX9_read_28 : decode cX9_read 28 = .ok (.getfield 298, 3) := by decide +kernel
theorem dX9_read_31 : decode cX9_read 31 = .ok (.if_icmp .ge 20, 3) := by decide +kernel
theorem dX9_read_34 : decode cX9_read 34 = .ok (.aload_n 0, 1) := by decide +kernel
theorem dX9_read_35 : decode cX9_read 35 = .ok (.iload_n 3, 1) := by decide +kernel
theorem dX9_read_36 : decode cX9_read 36 = .ok (.invokevirtual 327, 3) := by decide +kernel
theorem dX9_read_39 : decode cX9_read 39 = .ok (.ifCond .eq 6, 3) := by decide +kernel
theorem dX9_read_42 : decode cX9_read 42 = .ok (.iinc 2 1, 3) := by decide +kernel
theorem dX9_read_45 : decode cX9_read 45 = .ok (.iinc 3 1, 3) := by decide +kernel
theorem dX9_read_48 : decode cX9_read 48 = .ok (.goto (-22), 3) := by decide +kernel
theorem dX9_read_51 : decode cX9_read 51 = .ok (.aload_n 0, 1) := by decide +kernel
theorem dX9_read_52 : decode cX9_read 52 = .ok (.iconst 0, 1) := by decide +kernel
theorem dX9_read_53 : decode cX9_read 53 = .ok (.putfield 120, 3) := by decide +kernel
theorem dX9_read_56 : decode cX9_read 56 = .ok (.iload_n 2, 1) := by decide +kernel
theorem dX9_read_57 : decode cX9_read 57 = .ok (.ireturn, 1) := by decide +kernel
theorem dX9_writes_0 : decode cX9_writes 0 = .ok (.aload_n 0, 1) := by decide +kernel
theorem dX9_writes_1 : decode cX9_writes 1 = .ok (.getfield 73, 3) := by decide +kernel
theorem dX9_writes_4 : decode cX9_writes 4 = .ok (.aload_n 0, 1) := by decide +kernel
theorem dX9_writes_5 : decode cX9_writes 5 = .ok (.getfield 330, 3) := by decide +kernel
theorem dX9_writes_8 : decode cX9_writes 8 = .ok (.iload_n 1, 1) := by decide +kernel
theorem dX9_writes_9 : decode cX9_writes 9 = .ok (.i2b, 1) := by decide +kernel
theorem dX9_writes_10 : decode cX9_writes 10 = .ok (.bastore, 1) := by decide +kernel
theorem dX9_writes_11 : decode cX9_writes 11 = .ok (.aload_n 0, 1) := by decide +kernel
theorem dX9_writes_12 : decode cX9_writes 12 = .ok (.dup, 1) := by decide +kernel
theorem dX9_writes_13 : decode cX9_writes 13 = .ok (.getfield 330, 3) := by decide +kernel
theorem dX9_writes_16 : decode cX9_writes 16 = .ok (.iconst 1, 1) := by decide +kernel
theorem dX9_writes_17 : decode cX9_writes 17 = .ok (.iadd, 1) := by decide +kernel
theorem dX9_writes_18 : decode cX9_writes 18 = .ok (.putfield 330, 3) := by decide +kernel
theorem dX9_writes_21 : decode cX9_writes 21 = .ok (.return_, 1) := by decide +kernel
theorem dX9_spell_0 : decode cX9_spell 0 = .ok (.aload_n 0, 1) := by decide +kernel
theorem dX9_spell_1 : decode cX9_spell 1 = .ok (.iconst 0, 1) := by decide +kernel
theorem dX9_spell_2 : decode cX9_spell 2 = .ok (.putfield 330, 3) := by decide +kernel
theorem dX9_spell_5 : decode cX9_spell 5 = .ok (.iconst 1, 1) := by decide +kernel
theorem dX9_spell_6 : decode cX9_spell 6 = .ok (.istore_n 1, 1) := by decide +kernel
theorem dX9_spell_7 : decode cX9_spell 7 = .ok (.iload_n 1, 1) := by decide +kernel
theorem dX9_spell_8 : decode cX9_spell 8 = .ok (.sipush 256, 3) := by decide +kernel
theorem dX9_spell_11 : decode cX9_spell 11 = .ok (.if_icmp .ge 65, 3) := by decide +kernel
theorem dX9_spell_14 : decode cX9_spell 14 = .ok (.aload_n 0, 1) := by decide +kernel
theorem dX9_spell_15 : decode cX9_spell 15 = .ok (.getfield 15, 3) := by decide +kernel
theorem dX9_spell_18 : decode cX9_spell 18 = .ok (.iload_n 1, 1) := by decide +kernel
theorem dX9_spell_19 : decode cX9_spell 19 = .ok (.baload, 1) := by decide +kernel
theorem dX9_spell_20 : decode cX9_spell 20 = .ok (.ifCond .ne 6, 3) := by decide +kernel
theorem dX9_spell_23 : decode cX9_spell 23 = .ok (.goto 47, 3) := by decide +kernel
theorem dX9_spell_26 : decode cX9_spell 26 = .ok (.aload_n 0, 1) := by decide +kernel
theorem dX9_spell_27 : decode cX9_spell 27 = .ok (.getfield 330, 3) := by decide +kernel
theorem dX9_spell_30 : decode cX9_spell 30 = .ok (.ifCond .le 9, 3) := by decide +kernel
theorem dX9_spell_33 : decode cX9_spell 33 = .ok (.aload_n 0, 1) := by decide +kernel
theorem dX9_spell_34 : decode cX9_spell 34 = .ok (.bipush 32, 2) := by decide +kernel
theorem dX9_spell_36 : decode cX9_spell 36 = .ok (.invokevirtual 333, 3) := by decide +kernel
theorem dX9_spell_39 : decode cX9_spell 39 = .ok (.iconst 0, 1) := by decide +kernel
theorem dX9_spell_40 : decode cX9_spell 40 = .ok (.istore_n 2, 1) := by decide +kernel
theorem dX9_spell_41 : decode cX9_spell 41 = .ok (.iload_n 2, 1) := by decide +kernel
theorem dX9_spell_42 : decode cX9_spell 42 = .ok (.bipush 8, 2) := by decide +kernel
theorem dX9_spell_44 : decode cX9_spell 44 = .ok (.if_icmp .ge 26, 3) := by decide +kernel
theorem dX9_spell_47 : decode cX9_spell 47 = .ok (.iload_n 1, 1) := by decide +kernel
theorem dX9_spell_48 : decode cX9_spell 48 = .ok (.iload_n 2, 1) := by decide +kernel
theorem dX9_spell_49 : decode cX9_spell 49 = .ok (.ishr, 1) := by decide +kernel
theorem dX9_spell_50 : decode cX9_spell 50 = .ok (.iconst 1, 1) := by decide +kernel
theorem dX9_spell_51 : decode cX9_spell 51 = .ok (.iand, 1) := by decide +kernel
theorem dX9_spell_52 : decode cX9_spell 52 = .ok (.iconst 1, 1) := by decide +kernel
theorem dX9_spell_53 : decode cX9_spell 53 = .ok (.if_icmp .ne 11, 3) := by decide +kernel
theorem dX9_spell_56 : decode cX9_spell 56 = .ok (.aload_n 0, 1) := by decide +kernel
theorem dX9_spell_57 : decode cX9_spell 57 = .ok (.bipush 48, 2) := by decide +kernel
theorem dX9_spell_59 : decode cX9_spell 59 = .ok (.iload_n 2, 1) := by decide +kernel
theorem dX9_spell_60 : decode cX9_spell 60 = .ok (.iadd, 1) := by decide +kernel
theorem dX9_spell_61 : decode cX9_spell 61 = .ok (.invokevirtual 333, 3) := by decide +kernel
theorem dX9_spell_64 : decode cX9_spell 64 = .ok (.iinc 2 1, 3) := by decide +kernel
theorem dX9_spell_67 : decode cX9_spell 67 = .ok (.goto (-26), 3) := by decide +kernel
theorem dX9_spell_70 : decode cX9_spell 70 = .ok (.iinc 1 1, 3) := by decide +kernel
theorem dX9_spell_73 : decode cX9_spell 73 = .ok (.goto (-66), 3) := by decide +kernel
theorem dX9_spell_76 : decode cX9_spell 76 = .ok (.aload_n 0, 1) := by decide +kernel
theorem dX9_spell_77 : decode cX9_spell 77 = .ok (.getfield 330, 3) := by decide +kernel
theorem dX9_spell_80 : decode cX9_spell 80 = .ok (.ireturn, 1) := by decide +kernel
theorem dX9_paper_0 : decode cX9_paper 0 = .ok (.iload_n 1, 1) := by decide +kernel
theorem dX9_paper_1 : decode cX9_paper 1 = .ok (.iconst 0, 1) := by decide +kernel
theorem dX9_paper_2 : decode cX9_paper 2 = .ok (.aload_n 0, 1) := by decide +kernel
theorem dX9_paper_3 : decode cX9_paper 3 = .ok (.getfield 330, 3) := by decide +kernel
theorem dX9_paper_6 : decode cX9_paper 6 = .ok (.iconst 1, 1) := by decide +kernel
theorem dX9_paper_7 : decode cX9_paper 7 = .ok (.isub, 1) := by decide +kernel
theorem dX9_paper_8 : decode cX9_paper 8 = .ok (.invokestatic 91, 3) := by decide +kernel
theorem dX9_paper_11 : decode cX9_paper 11 = .ok (.ifCond .eq 12, 3) := by decide +kernel
theorem dX9_paper_14 : decode cX9_paper 14 = .ok (.aload_n 0, 1) := by decide +kernel
theorem dX9_paper_15 : decode cX9_paper 15 = .ok (.getfield 73, 3) := by decide +kernel
theorem dX9_paper_18 : decode cX9_paper 18 = .ok (.iload_n 1, 1) := by decide +kernel
theorem dX9_paper_19 : decode cX9_paper 19 = .ok (.baload, 1) := by decide +kernel
theorem dX9_paper_20 : decode cX9_paper 20 = .ok (.goto 4, 3) := by decide +kernel
theorem dX9_paper_23 : decode cX9_paper 23 = .ok (.iconst (-1), 1) := by decide +kernel
theorem dX9_paper_24 : decode cX9_paper 24 = .ok (.ireturn, 1) := by decide +kernel
theorem dX9_isList_0 : decode cX9_isList 0 = .ok (.iload_n 0, 1) := by decide +kernel
theorem dX9_isList_1 : decode cX9_isList 1 = .ok (.iconst 0, 1) := by decide +kernel
theorem dX9_isList_2 : decode cX9_isList 2 = .ok (.iconst 3, 1) := by decide +kernel
theorem dX9_isList_3 : decode cX9_isList 3 = .ok (.invokestatic 91, 3) := by decide +kernel
theorem dX9_isList_6 : decode cX9_isList 6 = .ok (.ireturn, 1) := by decide +kernel
theorem dX9_judge_0 : decode cX9_judge 0 = .ok (.iload_n 1, 1) := by decide +kernel
theorem dX9_judge_1 : decode cX9_judge 1 = .ok (.invokestatic 336, 3) := by decide +kernel
theorem dX9_judge_4 : decode cX9_judge 4 = .ok (.ifCond .ne 5, 3) := by decide +kernel
theorem dX9_judge_7 : decode cX9_judge 7 = .ok (.iconst (-1), 1) := by decide +kernel
theorem dX9_judge_8 : decode cX9_judge 8 = .ok (.ireturn, 1) := by decide +kernel
theorem dX9_judge_9 : decode cX9_judge 9 = .ok (.aload_n 0, 1) := by decide +kernel
theorem dX9_judge_10 : decode cX9_judge 10 = .ok (.getfield 76, 3) := by decide +kernel
theorem dX9_judge_13 : decode cX9_judge 13 = .ok (.iload_n 1, 1) := by decide +kernel
theorem dX9_judge_14 : decode cX9_judge 14 = .ok (.iaload, 1) := by decide +kernel
theorem dX9_judge_15 : decode cX9_judge 15 = .ok (.ifCond .ge 6, 3) := by decide +kernel
theorem dX9_judge_18 : decode cX9_judge 18 = .ok (.bipush (-11), 2) := by decide +kernel
theorem dX9_judge_20 : decode cX9_judge 20 = .ok (.ireturn, 1) := by decide +kernel
theorem dX9_judge_21 : decode cX9_judge 21 = .ok (.aload_n 0, 1) := by decide +kernel
theorem dX9_judge_22 : decode cX9_judge 22 = .ok (.getfield 15, 3) := by decide +kernel
theorem dX9_judge_25 : decode cX9_judge 25 = .ok (.invokestatic 140, 3) := by decide +kernel
theorem dX9_judge_28 : decode cX9_judge 28 = .ok (.istore_n 2, 1) := by decide +kernel
theorem dX9_judge_29 : decode cX9_judge 29 = .ok (.iconst 0, 1) := by decide +kernel
theorem dX9_judge_30 : decode cX9_judge 30 = .ok (.istore_n 3, 1) := by decide +kernel
theorem dX9_judge_31 : decode cX9_judge 31 = .ok (.iload_n 3, 1) := by decide +kernel
theorem dX9_judge_32 : decode cX9_judge 32 = .ok (.iload_n 2, 1) := by decide +kernel
theorem dX9_judge_33 : decode cX9_judge 33 = .ok (.if_icmp .lt 13, 3) := by decide +kernel
theorem dX9_judge_36 : decode cX9_judge 36 = .ok (.iload_n 3, 1) := by decide +kernel
theorem dX9_judge_37 : decode cX9_judge 37 = .ok (.aload_n 0, 1) := by decide +kernel
theorem dX9_judge_38 : decode cX9_judge 38 = .ok (.getfield 76, 3) := by decide +kernel
theorem dX9_judge_41 : decode cX9_judge 41 = .ok (.iload_n 1, 1) := by decide +kernel
theorem dX9_judge_42 : decode cX9_judge 42 = .ok (.iaload, 1) := by decide +kernel
theorem dX9_judge_43 : decode cX9_judge 43 = .ok (.if_icmp .ge 42, 3) := by decide +kernel
theorem dX9_judge_46 : decode cX9_judge 46 = .ok (.iload_n 3, 1) := by decide +kernel
theorem dX9_judge_47 : decode cX9_judge 47 = .ok (.iload_n 2, 1) := by decide +kernel
theorem dX9_judge_48 : decode cX9_judge 48 = .ok (.if_icmp .ge 29, 3) := by decide +kernel
theorem dX9_judge_51 : decode cX9_judge 51 = .ok (.iload_n 3, 1) := by decide +kernel
theorem dX9_judge_52 : decode cX9_judge 52 = .ok (.aload_n 0, 1) := by decide +kernel
theorem dX9_judge_53 : decode cX9_judge 53 = .ok (.getfield 76, 3) := by decide +kernel
theorem dX9_judge_56 : decode cX9_judge 56 = .ok (.iload_n 1, 1) := by decide +kernel
theorem dX9_judge_57 : decode cX9_judge 57 = .ok (.iaload, 1) := by decide +kernel
theorem dX9_judge_58 : decode cX9_judge 58 = .ok (.if_icmp .ge 19, 3) := by decide +kernel
theorem dX9_judge_61 : decode cX9_judge 61 = .ok (.aload_n 0, 1) := by decide +kernel
theorem dX9_judge_62 : decode cX9_judge 62 = .ok (.getfield 79, 3) := by decide +kernel
theorem dX9_judge_65 : decode cX9_judge 65 = .ok (.iload_n 1, 1) := by decide +kernel
theorem dX9_judge_66 : decode cX9_judge 66 = .ok (.aaload, 1) := by decide +kernel
theorem dX9_judge_67 : decode cX9_judge 67 = .ok (.iload_n 3, 1) := by decide +kernel
theorem dX9_judge_68 : decode cX9_judge 68 = .ok (.iaload, 1) := by decide +kernel
theorem dX9_judge_69 : decode cX9_judge 69 = .ok (.aload_n 0, 1) := by decide +kernel
theorem dX9_judge_70 : decode cX9_judge 70 = .ok (.iload_n 3, 1) := by decide +kernel
theorem dX9_judge_71 : decode cX9_judge 71 = .ok (.invokevirtual 178, 3) := by decide +kernel
theorem dX9_judge_74 : decode cX9_judge 74 = .ok (.if_icmp .eq 5, 3) := by decide +kernel
theorem dX9_judge_77 : decode cX9_judge 77 = .ok (.iload_n 3, 1) := by decide +kernel
theorem dX9_judge_78 : decode cX9_judge 78 = .ok (.ireturn, 1) := by decide +kernel
theorem dX9_judge_79 : decode cX9_judge 79 = .ok (.iinc 3 1, 3) := by decide +kernel
theorem dX9_judge_82 : decode cX9_judge 82 = .ok (.goto (-51), 3) := by decide +kernel
theorem dX9_judge_85 : decode cX9_judge 85 = .ok (.bipush (-5), 2) := by decide +kernel
theorem dX9_judge_87 : decode cX9_judge 87 = .ok (.ireturn, 1) := by decide +kernel
theorem dX9_isFit_0 : decode cX9_isFit 0 = .ok (.iconst 0, 1) := by decide +kernel
theorem dX9_isFit_1 : decode cX9_isFit 1 = .ok (.istore 4, 2) := by decide +kernel
theorem dX9_isFit_3 : decode cX9_isFit 3 = .ok (.iload 4, 2) := by decide +kernel
theorem dX9_isFit_5 : decode cX9_isFit 5 = .ok (.iload_n 3, 1) := by decide +kernel
theorem dX9_isFit_6 : decode cX9_isFit 6 = .ok (.if_icmp .ge 102, 3) := by decide +kernel
theorem dX9_isFit_9 : decode cX9_isFit 9 = .ok (.iload_n 1, 1) := by decide +kernel
theorem dX9_isFit_10 : decode cX9_isFit 10 = .ok (.aload_n 0, 1) := by decide +kernel
theorem dX9_isFit_11 : decode cX9_isFit 11 = .ok (.aload_n 0, 1) := by decide +kernel
theorem dX9_isFit_12 : decode cX9_isFit 12 = .ok (.getfield 79, 3) := by decide +kernel
theorem dX9_isFit_15 : decode cX9_isFit 15 = .ok (.iload_n 2, 1) := by decide +kernel
theorem dX9_isFit_16 : decode cX9_isFit 16 = .ok (.aaload, 1) := by decide +kernel
theorem dX9_isFit_17 : decode cX9_isFit 17 = .ok (.iload 4, 2) := by decide +kernel
theorem dX9_isFit_19 : decode cX9_isFit 19 = .ok (.iaload, 1) := by decide +kernel
theorem dX9_isFit_20 : decode cX9_isFit 20 = .ok (.invokevirtual 181, 3) := by decide +kernel
theorem dX9_isFit_23 : decode cX9_isFit 23 = .ok (.iand, 1) := by decide +kernel
theorem dX9_isFit_24 : decode cX9_isFit 24 = .ok (.istore 5, 2) := by decide +kernel
theorem dX9_isFit_26 : decode cX9_isFit 26 = .ok (.iconst 0, 1) := by decide +kernel
theorem dX9_isFit_27 : decode cX9_isFit 27 = .ok (.istore 6, 2) := by decide +kernel
theorem dX9_isFit_29 : decode cX9_isFit 29 = .ok (.iconst 0, 1) := by decide +kernel
theorem dX9_isFit_30 : decode cX9_isFit 30 = .ok (.istore 7, 2) := by decide +kernel
theorem dX9_isFit_32 : decode cX9_isFit 32 = .ok (.iload 7, 2) := by decide +kernel
theorem dX9_isFit_34 : decode cX9_isFit 34 = .ok (.iload_n 3, 1) := by decide +kernel
theorem dX9_isFit_35 : decode cX9_isFit 35 = .ok (.if_icmp .ge 60, 3) := by decide +kernel
theorem dX9_isFit_38 : decode cX9_isFit 38 = .ok (.iload_n 1, 1) := by decide +kernel
theorem dX9_isFit_39 : decode cX9_isFit 39 = .ok (.aload_n 0, 1) := by decide +kernel
theorem dX9_isFit_40 : decode cX9_isFit 40 = .ok (.aload_n 0, 1) := by decide +kernel
theorem dX9_isFit_41 : decode cX9_isFit 41 = .ok (.getfield 79, 3) := by decide +kernel
theorem dX9_isFit_44 : decode cX9_isFit 44 = .ok (.iload_n 2, 1) := by decide +kernel
theorem dX9_isFit_45 : decode cX9_isFit 45 = .ok (.aaload, 1) := by decide +kernel
theorem dX9_isFit_46 : decode cX9_isFit 46 = .ok (.iload 7, 2) := by decide +kernel
theorem dX9_isFit_48 : decode cX9_isFit 48 = .ok (.iaload, 1) := by decide +kernel
theorem dX9_isFit_49 : decode cX9_isFit 49 = .ok (.invokevirtual 181, 3) := by decide +kernel
theorem dX9_isFit_52 : decode cX9_isFit 52 = .ok (.iand, 1) := by decide +kernel
theorem dX9_isFit_53 : decode cX9_isFit 53 = .ok (.istore 8, 2) := by decide +kernel
theorem dX9_isFit_55 : decode cX9_isFit 55 = .ok (.iload 6, 2) := by decide +kernel
theorem dX9_isFit_57 : decode cX9_isFit 57 = .ok (.iload 8, 2) := by decide +kernel
theorem dX9_isFit_59 : decode cX9_isFit 59 = .ok (.invokestatic 110, 3) := by decide +kernel
theorem dX9_isFit_62 : decode cX9_isFit 62 = .ok (.aload_n 0, 1) := by decide +kernel
theorem dX9_isFit_63 : decode cX9_isFit 63 = .ok (.getfield 9, 3) := by decide +kernel
theorem dX9_isFit_66 : decode cX9_isFit 66 = .ok (.iconst 1, 1) := by decide +kernel
theorem dX9_isFit_67 : decode cX9_isFit 67 = .ok (.isub, 1) := by decide +kernel
theorem dX9_isFit_68 : decode cX9_isFit 68 = .ok (.if_icmp .ne 17, 3) := by decide +kernel
theorem dX9_isFit_71 : decode cX9_isFit 71 = .ok (.iload 5, 2) := by decide +kernel
theorem dX9_isFit_73 : decode cX9_isFit 73 = .ok (.iload 8, 2) := by decide +kernel
theorem dX9_isFit_75 : decode cX9_isFit 75 = .ok (.iconst (-1), 1) := by decide +kernel
theorem dX9_isFit_76 : decode cX9_isFit 76 = .ok (.ixor, 1) := by decide +kernel
theorem dX9_isFit_77 : decode cX9_isFit 77 = .ok (.iand, 1) := by decide +kernel
theorem dX9_isFit_78 : decode cX9_isFit 78 = .ok (.ifCond .ne 7, 3) := by decide +kernel
theorem dX9_isFit_81 : decode cX9_isFit 81 = .ok (.iconst 1, 1) := by decide +kernel
theorem dX9_isFit_82 : decode cX9_isFit 82 = .ok (.goto 4, 3) := by decide +kernel
theorem dX9_isFit_85 : decode cX9_isFit 85 = .ok (.iconst 0, 1) := by decide +kernel
theorem dX9_isFit_86 : decode cX9_isFit 86 = .ok (.ior, 1) := by decide +kernel
theorem dX9_isFit_87 : decode cX9_isFit 87 = .ok (.istore 6, 2) := by decide +kernel
theorem dX9_isFit_89 : decode cX9_isFit 89 = .ok (.iinc 7 1, 3) := by decide +kernel
theorem dX9_isFit_92 : decode cX9_isFit 92 = .ok (.goto (-60), 3) := by decide +kernel
theorem dX9_isFit_95 : decode cX9_isFit 95 = .ok (.iload 6, 2) := by decide +kernel
theorem dX9_isFit_97 : decode cX9_isFit 97 = .ok (.ifCond .ne 5, 3) := by decide +kernel
theorem dX9_isFit_100 : decode cX9_isFit 100 = .ok (.iconst 0, 1) := by decide +kernel
theorem dX9_isFit_101 : decode cX9_isFit 101 = .ok (.ireturn, 1) := by decide +kernel
theorem dX9_isFit_102 : decode cX9_isFit 102 = .ok (.iinc 4 1, 3) := by decide +kernel
theorem dX9_isFit_105 : decode cX9_isFit 105 = .ok (.goto (-102), 3) := by decide +kernel
theorem dX9_isFit_108 : decode cX9_isFit 108 = .ok (.iconst 1, 1) := by decide +kernel
theorem dX9_isFit_109 : decode cX9_isFit 109 = .ok (.ireturn, 1) := by decide +kernel
theorem dX9_isAgain_0 : decode cX9_isAgain 0 = .ok (.iconst 0, 1) := by decide +kernel
theorem dX9_isAgain_1 : decode cX9_isAgain 1 = .ok (.istore_n 3, 1) := by decide +kernel
theorem dX9_isAgain_2 : decode cX9_isAgain 2 = .ok (.iload_n 3, 1) := by decide +kernel
theorem dX9_isAgain_3 : decode cX9_isAgain 3 = .ok (.iload_n 2, 1) := by decide +kernel
theorem dX9_isAgain_4 : decode cX9_isAgain 4 = .ok (.if_icmp .ge 30, 3) := by decide +kernel
theorem dX9_isAgain_7 : decode cX9_isAgain 7 = .ok (.aload_n 0, 1) := by decide +kernel
theorem dX9_isAgain_8 : decode cX9_isAgain 8 = .ok (.getfield 79, 3) := by decide +kernel
theorem dX9_isAgain_11 : decode cX9_isAgain 11 = .ok (.iload_n 1, 1) := by decide +kernel
theorem dX9_isAgain_12 : decode cX9_isAgain 12 = .ok (.aaload, 1) := by decide +kernel
theorem dX9_isAgain_13 : decode cX9_isAgain 13 = .ok (.iload_n 3, 1) := by decide +kernel
theorem dX9_isAgain_14 : decode cX9_isAgain 14 = .ok (.iaload, 1) := by decide +kernel
theorem dX9_isAgain_15 : decode cX9_isAgain 15 = .ok (.aload_n 0, 1) := by decide +kernel
theorem dX9_isAgain_16 : decode cX9_isAgain 16 = .ok (.getfield 79, 3) := by decide +kernel
theorem dX9_isAgain_19 : decode cX9_isAgain 19 = .ok (.iload_n 1, 1) := by decide +kernel
theorem dX9_isAgain_20 : decode cX9_isAgain 20 = .ok (.aaload, 1) := by decide +kernel
theorem dX9_isAgain_21 : decode cX9_isAgain 21 = .ok (.iload_n 2, 1) := by decide +kernel
theorem dX9_isAgain_22 : decode cX9_isAgain 22 = .ok (.iaload, 1) := by decide +kernel
theorem dX9_isAgain_23 : decode cX9_isAgain 23 = .ok (.if_icmp .ne 5, 3) := by decide +kernel
theorem dX9_isAgain_26 : decode cX9_isAgain 26 = .ok (.iconst 1, 1) := by decide +kernel
theorem dX9_isAgain_27 : decode cX9_isAgain 27 = .ok (.ireturn, 1) := by decide +kernel
theorem dX9_isAgain_28 : decode cX9_isAgain 28 = .ok (.iinc 3 1, 3) := by decide +kernel
theorem dX9_isAgain_31 : decode cX9_isAgain 31 = .ok (.goto (-29), 3) := by decide +kernel
theorem dX9_isAgain_34 : decode cX9_isAgain 34 = .ok (.iconst 0, 1) := by decide +kernel
theorem dX9_isAgain_35 : decode cX9_isAgain 35 = .ok (.ireturn, 1) := by decide +kernel
theorem dX9_shelled_0 : decode cX9_shelled 0 = .ok (.iload_n 1, 1) := by decide +kernel
theorem dX9_shelled_1 : decode cX9_shelled 1 = .ok (.invokestatic 336, 3) := by decide +kernel
theorem dX9_shelled_4 : decode cX9_shelled 4 = .ok (.ifCond .ne 5, 3) := by decide +kernel
theorem dX9_shelled_7 : decode cX9_shelled 7 = .ok (.iconst (-1), 1) := by decide +kernel
theorem dX9_shelled_8 : decode cX9_shelled 8 = .ok (.ireturn, 1) := by decide +kernel
theorem dX9_shelled_9 : decode cX9_shelled 9 = .ok (.aload_n 0, 1) := by decide +kernel
theorem dX9_shelled_10 : decode cX9_shelled 10 = .ok (.getfield 76, 3) := by decide +kernel
theorem dX9_shelled_13 : decode cX9_shelled 13 = .ok (.iload_n 1, 1) := by decide +kernel
theorem dX9_shelled_14 : decode cX9_shelled 14 = .ok (.iaload, 1) := by decide +kernel
theorem dX9_shelled_15 : decode cX9_shelled 15 = .ok (.ifCond .ge 6, 3) := by decide +kernel
theorem dX9_shelled_18 : decode cX9_shelled 18 = .ok (.bipush (-11), 2) := by decide +kernel
theorem dX9_shelled_20 : decode cX9_shelled 20 = .ok (.ireturn, 1) := by decide +kernel
theorem dX9_shelled_21 : decode cX9_shelled 21 = .ok (.iconst 0, 1) := by decide +kernel
theorem dX9_shelled_22 : decode cX9_shelled 22 = .ok (.istore_n 2, 1) := by decide +kernel
theorem dX9_shelled_23 : decode cX9_shelled 23 = .ok (.iload_n 2, 1) := by decide +kernel
theorem dX9_shelled_24 : decode cX9_shelled 24 = .ok (.aload_n 0, 1) := by decide +kernel
theorem dX9_shelled_25 : decode cX9_shelled 25 = .ok (.getfield 76, 3) := by decide +kernel
theorem dX9_shelled_28 : decode cX9_shelled 28 = .ok (.iload_n 1, 1) := by decide +kernel
theorem dX9_shelled_29 : decode cX9_shelled 29 = .ok (.iaload, 1) := by decide +kernel
theorem dX9_shelled_30 : decode cX9_shelled 30 = .ok (.if_icmp .ge 47, 3) := by decide +kernel
theorem dX9_shelled_33 : decode cX9_shelled 33 = .ok (.aload_n 0, 1) := by decide +kernel
theorem dX9_shelled_34 : decode cX9_shelled 34 = .ok (.aload_n 0, 1) := by decide +kernel
theorem dX9_shelled_35 : decode cX9_shelled 35 = .ok (.getfield 79, 3) := by decide +kernel
theorem dX9_shelled_38 : decode cX9_shelled 38 = .ok (.iload_n 1, 1) := by decide +kernel
theorem dX9_shelled_39 : decode cX9_shelled 39 = .ok (.aaload, 1) := by decide +kernel
theorem dX9_shelled_40 : decode cX9_shelled 40 = .ok (.iload_n 2, 1) := by decide +kernel
theorem dX9_shelled_41 : decode cX9_shelled 41 = .ok (.iaload, 1) := by decide +kernel
theorem dX9_shelled_42 : decode cX9_shelled 42 = .ok (.invokevirtual 181, 3) := by decide +kernel
theorem dX9_shelled_45 : decode cX9_shelled 45 = .ok (.istore_n 3, 1) := by decide +kernel
theorem dX9_shelled_46 : decode cX9_shelled 46 = .ok (.iload_n 3, 1) := by decide +kernel
theorem dX9_shelled_47 : decode cX9_shelled 47 = .ok (.ifCond .lt 22, 3) := by decide +kernel
theorem dX9_shelled_50 : decode cX9_shelled 50 = .ok (.aload_n 0, 1) := by decide +kernel
theorem dX9_shelled_51 : decode cX9_shelled 51 = .ok (.iload_n 1, 1) := by decide +kernel
theorem dX9_shelled_52 : decode cX9_shelled 52 = .ok (.iload_n 2, 1) := by decide +kernel
theorem dX9_shelled_53 : decode cX9_shelled 53 = .ok (.invokevirtual 339, 3) := by decide +kernel
theorem dX9_shelled_56 : decode cX9_shelled 56 = .ok (.ifCond .ne 13, 3) := by decide +kernel
theorem dX9_shelled_59 : decode cX9_shelled 59 = .ok (.aload_n 0, 1) := by decide +kernel
theorem dX9_shelled_60 : decode cX9_shelled 60 = .ok (.iload_n 3, 1) := by decide +kernel
theorem dX9_shelled_61 : decode cX9_shelled 61 = .ok (.iload_n 1, 1) := by decide +kernel
theorem dX9_shelled_62 : decode cX9_shelled 62 = .ok (.iload_n 2, 1) := by decide +kernel
theorem dX9_shelled_63 : decode cX9_shelled 63 = .ok (.invokevirtual 342, 3) := by decide +kernel
theorem dX9_shelled_66 : decode cX9_shelled 66 = .ok (.ifCond .ne 5, 3) := by decide +kernel
theorem dX9_shelled_69 : decode cX9_shelled 69 = .ok (.iload_n 2, 1) := by decide +kernel
theorem dX9_shelled_70 : decode cX9_shelled 70 = .ok (.ireturn, 1) := by decide +kernel
theorem dX9_shelled_71 : decode cX9_shelled 71 = .ok (.iinc 2 1, 3) := by decide +kernel
theorem dX9_shelled_74 : decode cX9_shelled 74 = .ok (.goto (-51), 3) := by decide +kernel
theorem dX9_shelled_77 : decode cX9_shelled 77 = .ok (.bipush (-5), 2) := by decide +kernel
theorem dX9_shelled_79 : decode cX9_shelled 79 = .ok (.ireturn, 1) := by decide +kernel
theorem dX9_plan_0 : decode cX9_plan 0 = .ok (.iload_n 1, 1) := by decide +kernel
theorem dX9_plan_1 : decode cX9_plan 1 = .ok (.invokestatic 336, 3) := by decide +kernel
theorem dX9_plan_4 : decode cX9_plan 4 = .ok (.ifCond .eq 12, 3) := by decide +kernel
theorem dX9_plan_7 : decode cX9_plan 7 = .ok (.iload_n 2, 1) := by decide +kernel
theorem dX9_plan_8 : decode cX9_plan 8 = .ok (.iconst 0, 1) := by decide +kernel
theorem dX9_plan_9 : decode cX9_plan 9 = .ok (.iconst 2, 1) := by decide +kernel
theorem dX9_plan_10 : decode cX9_plan 10 = .ok (.invokestatic 91, 3) := by decide +kernel
theorem dX9_plan_13 : decode cX9_plan 13 = .ok (.ifCond .ne 5, 3) := by decide +kernel
theorem dX9_plan_16 : decode cX9_plan 16 = .ok (.iconst (-1), 1) := by decide +kernel
theorem dX9_plan_17 : decode cX9_plan 17 = .ok (.ireturn, 1) := by decide +kernel
theorem dX9_plan_18 : decode cX9_plan 18 = .ok (.aload_n 0, 1) := by decide +kernel
theorem dX9_plan_19 : decode cX9_plan 19 = .ok (.getfield 76, 3) := by decide +kernel
theorem dX9_plan_22 : decode cX9_plan 22 = .ok (.iload_n 1, 1) := by decide +kernel
theorem dX9_plan_23 : decode cX9_plan 23 = .ok (.iaload, 1) := by decide +kernel
theorem dX9_plan_24 : decode cX9_plan 24 = .ok (.ifCond .ge 6, 3) := by decide +kernel
theorem dX9_plan_27 : decode cX9_plan 27 = .ok (.bipush (-11), 2) := by decide +kernel
theorem dX9_plan_29 : decode cX9_plan 29 = .ok (.ireturn, 1) := by decide +kernel
theorem dX9_plan_30 : decode cX9_plan 30 = .ok (.aload_n 0, 1) := by decide +kernel
theorem dX9_plan_31 : decode cX9_plan 31 = .ok (.getfield 15, 3) := by decide +kernel
theorem dX9_plan_34 : decode cX9_plan 34 = .ok (.aload_n 0, 1) := by decide +kernel
theorem dX9_plan_35 : decode cX9_plan 35 = .ok (.getfield 48, 3) := by decide +kernel
theorem dX9_plan_38 : decode cX9_plan 38 = .ok (.iconst 0, 1) := by decide +kernel
theorem dX9_plan_39 : decode cX9_plan 39 = .ok (.aaload, 1) := by decide +kernel
theorem dX9_plan_40 : decode cX9_plan 40 = .ok (.invokestatic 123, 3) := by decide +kernel
theorem dX9_plan_43 : decode cX9_plan 43 = .ok (.iconst 0, 1) := by decide +kernel
theorem dX9_plan_44 : decode cX9_plan 44 = .ok (.istore_n 3, 1) := by decide +kernel
theorem dX9_plan_45 : decode cX9_plan 45 = .ok (.aload_n 0, 1) := by decide +kernel
theorem dX9_plan_46 : decode cX9_plan 46 = .ok (.aload_n 0, 1) := by decide +kernel
theorem dX9_plan_47 : decode cX9_plan 47 = .ok (.getfield 48, 3) := by decide +kernel
theorem dX9_plan_50 : decode cX9_plan 50 = .ok (.iconst 0, 1) := by decide +kernel
theorem dX9_plan_51 : decode cX9_plan 51 = .ok (.aaload, 1) := by decide +kernel
theorem dX9_plan_52 : decode cX9_plan 52 = .ok (.iconst 0, 1) := by decide +kernel
theorem dX9_plan_53 : decode cX9_plan 53 = .ok (.invokevirtual 203, 3) := by decide +kernel
theorem dX9_plan_56 : decode cX9_plan 56 = .ok (.iload_n 3, 1) := by decide +kernel
theorem dX9_plan_57 : decode cX9_plan 57 = .ok (.aload_n 0, 1) := by decide +kernel
theorem dX9_plan_58 : decode cX9_plan 58 = .ok (.getfield 76, 3) := by decide +kernel
theorem dX9_plan_61 : decode cX9_plan 61 = .ok (.iload_n 1, 1) := by decide +kernel
theorem dX9_plan_62 : decode cX9_plan 62 = .ok (.iaload, 1) := by decide +kernel
theorem dX9_plan_63 : decode cX9_plan 63 = .ok (.if_icmp .ge 81, 3) := by decide +kernel
theorem dX9_plan_66 : decode cX9_plan 66 = .ok (.aload_n 0, 1) := by decide +kernel
theorem dX9_plan_67 : decode cX9_plan 67 = .ok (.getfield 79, 3) := by decide +kernel
theorem dX9_plan_70 : decode cX9_plan 70 = .ok (.iload_n 1, 1) := by decide +kernel
theorem dX9_plan_71 : decode cX9_plan 71 = .ok (.aaload, 1) := by decide +kernel
theorem dX9_plan_72 : decode cX9_plan 72 = .ok (.iload_n 3, 1) := by decide +kernel
theorem dX9_plan_73 : decode cX9_plan 73 = .ok (.iaload, 1) := by decide +kernel
theorem dX9_plan_74 : decode cX9_plan 74 = .ok (.iconst 0, 1) := by decide +kernel
theorem dX9_plan_75 : decode cX9_plan 75 = .ok (.aload_n 0, 1) := by decide +kernel
theorem dX9_plan_76 : decode cX9_plan 76 = .ok (.getfield 45, 3) := by decide +kernel
theorem dX9_plan_79 : decode cX9_plan 79 = .ok (.iconst 0, 1) := by decide +kernel
theorem dX9_plan_80 : decode cX9_plan 80 = .ok (.iaload, 1) := by decide +kernel
theorem dX9_plan_81 : decode cX9_plan 81 = .ok (.iconst 1, 1) := by decide +kernel
theorem dX9_plan_82 : decode cX9_plan 82 = .ok (.isub, 1) := by decide +kernel
theorem dX9_plan_83 : decode cX9_plan 83 = .ok (.invokestatic 91, 3) := by decide +kernel
theorem dX9_plan_86 : decode cX9_plan 86 = .ok (.ifCond .eq 58, 3) := by decide +kernel
theorem dX9_plan_89 : decode cX9_plan 89 = .ok (.aload_n 0, 1) := by decide +kernel
theorem dX9_plan_90 : decode cX9_plan 90 = .ok (.getfield 79, 3) := by decide +kernel
theorem dX9_plan_93 : decode cX9_plan 93 = .ok (.iload_n 1, 1) := by decide +kernel
theorem dX9_plan_94 : decode cX9_plan 94 = .ok (.aaload, 1) := by decide +kernel
theorem dX9_plan_95 : decode cX9_plan 95 = .ok (.iload_n 3, 1) := by decide +kernel
theorem dX9_plan_96 : decode cX9_plan 96 = .ok (.iaload, 1) := by decide +kernel
theorem dX9_plan_97 : decode cX9_plan 97 = .ok (.istore 4, 2) := by decide +kernel
theorem dX9_plan_99 : decode cX9_plan 99 = .ok (.aload_n 0, 1) := by decide +kernel
theorem dX9_plan_100 : decode cX9_plan 100 = .ok (.aload_n 0, 1) := by decide +kernel
theorem dX9_plan_101 : decode cX9_plan 101 = .ok (.getfield 48, 3) := by decide +kernel
theorem dX9_plan_104 : decode cX9_plan 104 = .ok (.iconst 0, 1) := by decide +kernel
theorem dX9_plan_105 : decode cX9_plan 105 = .ok (.aaload, 1) := by decide +kernel
theorem dX9_plan_106 : decode cX9_plan 106 = .ok (.aload_n 0, 1) := by decide +kernel
theorem dX9_plan_107 : decode cX9_plan 107 = .ok (.getfield 39, 3) := by decide +kernel
theorem dX9_plan_110 : decode cX9_plan 110 = .ok (.iconst 0, 1) := by decide +kernel
theorem dX9_plan_111 : decode cX9_plan 111 = .ok (.aaload, 1) := by decide +kernel
theorem dX9_plan_112 : decode cX9_plan 112 = .ok (.iload 4, 2) := by decide +kernel
theorem dX9_plan_114 : decode cX9_plan 114 = .ok (.iaload, 1) := by decide +kernel
theorem dX9_plan_115 : decode cX9_plan 115 = .ok (.aload_n 0, 1) := by decide +kernel
theorem dX9_plan_116 : decode cX9_plan 116 = .ok (.getfield 42, 3) := by decide +kernel
theorem dX9_plan_119 : decode cX9_plan 119 = .ok (.iconst 0, 1) := by decide +kernel
theorem dX9_plan_120 : decode cX9_plan 120 = .ok (.aaload, 1) := by decide +kernel
theorem dX9_plan_121 : decode cX9_plan 121 = .ok (.iload 4, 2) := by decide +kernel
theorem dX9_plan_123 : decode cX9_plan 123 = .ok (.iaload, 1) := by decide +kernel
theorem dX9_plan_124 : decode cX9_plan 124 = .ok (.invokevirtual 210, 3) := by decide +kernel
theorem dX9_plan_127 : decode cX9_plan 127 = .ok (.iinc 3 1, 3) := by decide +kernel
theorem dX9_plan_130 : decode cX9_plan 130 = .ok (.aload_n 0, 1) := by decide +kernel
theorem dX9_plan_131 : decode cX9_plan 131 = .ok (.aload_n 0, 1) := by decide +kernel
theorem dX9_plan_132 : decode cX9_plan 132 = .ok (.getfield 48, 3) := by decide +kernel
theorem dX9_plan_135 : decode cX9_plan 135 = .ok (.iconst 0, 1) := by decide +kernel
theorem dX9_plan_136 : decode cX9_plan 136 = .ok (.aaload, 1) := by decide +kernel
theorem dX9_plan_137 : decode cX9_plan 137 = .ok (.iconst 0, 1) := by decide +kernel
theorem dX9_plan_138 : decode cX9_plan 138 = .ok (.invokevirtual 203, 3) := by decide +kernel
theorem dX9_plan_141 : decode cX9_plan 141 = .ok (.goto (-85), 3) := by decide +kernel
theorem dX9_plan_144 : decode cX9_plan 144 = .ok (.iload_n 2, 1) := by decide +kernel
theorem dX9_plan_145 : decode cX9_plan 145 = .ok (.ifCond .ne 7, 3) := by decide +kernel
theorem dX9_plan_148 : decode cX9_plan 148 = .ok (.iload_n 3, 1) := by decide +kernel
theorem dX9_plan_149 : decode cX9_plan 149 = .ok (.goto 27, 3) := by decide +kernel
theorem dX9_plan_152 : decode cX9_plan 152 = .ok (.iload_n 2, 1) := by decide +kernel
theorem dX9_plan_153 : decode cX9_plan 153 = .ok (.iconst 1, 1) := by decide +kernel
theorem dX9_plan_154 : decode cX9_plan 154 = .ok (.if_icmp .ne 15, 3) := by decide +kernel
theorem dX9_plan_157 : decode cX9_plan 157 = .ok (.aload_n 0, 1) := by decide +kernel
theorem dX9_plan_158 : decode cX9_plan 158 = .ok (.getfield 48, 3) := by decide +kernel
theorem dX9_plan_161 : decode cX9_plan 161 = .ok (.iconst 0, 1) := by decide +kernel
theorem dX9_plan_162 : decode cX9_plan 162 = .ok (.aaload, 1) := by decide +kernel
theorem dX9_plan_163 : decode cX9_plan 163 = .ok (.invokestatic 140, 3) := by decide +kernel
theorem dX9_plan_166 : decode cX9_plan 166 = .ok (.goto 10, 3) := by decide +kernel
theorem dX9_plan_169 : decode cX9_plan 169 = .ok (.bipush 100, 2) := by decide +kernel
theorem dX9_plan_171 : decode cX9_plan 171 = .ok (.aload_n 0, 1) := by decide +kernel
theorem dX9_plan_172 : decode cX9_plan 172 = .ok (.invokevirtual 161, 3) := by decide +kernel
theorem dX9_plan_175 : decode cX9_plan 175 = .ok (.iadd, 1) := by decide +kernel
theorem dX9_plan_176 : decode cX9_plan 176 = .ok (.ireturn, 1) := by decide +kernel
theorem dX9_list_0 : decode cX9_list 0 = .ok (.iload_n 1, 1) := by decide +kernel
theorem dX9_list_1 : decode cX9_list 1 = .ok (.invokestatic 336, 3) := by decide +kernel
theorem dX9_list_4 : decode cX9_list 4 = .ok (.ifCond .ne 5, 3) := by decide +kernel
theorem dX9_list_7 : decode cX9_list 7 = .ok (.iconst (-1), 1) := by decide +kernel
theorem dX9_list_8 : decode cX9_list 8 = .ok (.ireturn, 1) := by decide +kernel
theorem dX9_list_9 : decode cX9_list 9 = .ok (.iload_n 2, 1) := by decide +kernel
theorem dX9_list_10 : decode cX9_list 10 = .ok (.bipush 40, 2) := by decide +kernel
theorem dX9_list_12 : decode cX9_list 12 = .ok (.if_icmp .le 6, 3) := by decide +kernel
theorem dX9_list_15 : decode cX9_list 15 = .ok (.bipush (-2), 2) := by decide +kernel
theorem dX9_list_17 : decode cX9_list 17 = .ok (.ireturn, 1) := by decide +kernel
theorem dX9_list_18 : decode cX9_list 18 = .ok (.iload_n 2, 1) := by decide +kernel
theorem dX9_list_19 : decode cX9_list 19 = .ok (.ifCond .ge 6, 3) := by decide +kernel
theorem dX9_list_22 : decode cX9_list 22 = .ok (.bipush (-14), 2) := by decide +kernel
theorem dX9_list_24 : decode cX9_list 24 = .ok (.ireturn, 1) := by decide +kernel
theorem dX9_list_25 : decode cX9_list 25 = .ok (.aload_n 0, 1) := by decide +kernel
theorem dX9_list_26 : decode cX9_list 26 = .ok (.getfield 76, 3) := by decide +kernel
theorem dX9_list_29 : decode cX9_list 29 = .ok (.iload_n 1, 1) := by decide +kernel
theorem dX9_list_30 : decode cX9_list 30 = .ok (.iload_n 2, 1) := by decide +kernel
theorem dX9_list_31 : decode cX9_list 31 = .ok (.iastore, 1) := by decide +kernel
theorem dX9_list_32 : decode cX9_list 32 = .ok (.iconst 0, 1) := by decide +kernel
theorem dX9_list_33 : decode cX9_list 33 = .ok (.istore_n 3, 1) := by decide +kernel
theorem dX9_list_34 : decode cX9_list 34 = .ok (.iload_n 3, 1) := by decide +kernel
theorem dX9_list_35 : decode cX9_list 35 = .ok (.bipush 40, 2) := by decide +kernel
theorem dX9_list_37 : decode cX9_list 37 = .ok (.if_icmp .ge 18, 3) := by decide +kernel
theorem dX9_list_40 : decode cX9_list 40 = .ok (.aload_n 0, 1) := by decide +kernel
theorem dX9_list_41 : decode cX9_list 41 = .ok (.getfield 79, 3) := by decide +kernel
theorem dX9_list_44 : decode cX9_list 44 = .ok (.iload_n 1, 1) := by decide +kernel
theorem dX9_list_45 : decode cX9_list 45 = .ok (.aaload, 1) := by decide +kernel
theorem dX9_list_46 : decode cX9_list 46 = .ok (.iload_n 3, 1) := by decide +kernel
theorem dX9_list_47 : decode cX9_list 47 = .ok (.iconst 0, 1) := by decide +kernel
theorem dX9_list_48 : decode cX9_list 48 = .ok (.iastore, 1) := by decide +kernel
theorem dX9_list_49 : decode cX9_list 49 = .ok (.iinc 3 1, 3) := by decide +kernel
theorem dX9_list_52 : decode cX9_list 52 = .ok (.goto (-18), 3) := by decide +kernel
theorem dX9_list_55 : decode cX9_list 55 = .ok (.iconst 1, 1) := by decide +kernel
theorem dX9_list_56 : decode cX9_list 56 = .ok (.ireturn, 1) := by decide +kernel
theorem dX9_isPlace_0 : decode cX9_isPlace 0 = .ok (.iload_n 2, 1) := by decide +kernel
theorem dX9_isPlace_1 : decode cX9_isPlace 1 = .ok (.iconst 0, 1) := by decide +kernel
theorem dX9_isPlace_2 : decode cX9_isPlace 2 = .ok (.aload_n 0, 1) := by decide +kernel
theorem dX9_isPlace_3 : decode cX9_isPlace 3 = .ok (.getfield 76, 3) := by decide +kernel
theorem dX9_isPlace_6 : decode cX9_isPlace 6 = .ok (.iload_n 1, 1) := by decide +kernel
theorem dX9_isPlace_7 : decode cX9_isPlace 7 = .ok (.iaload, 1) := by decide +kernel
theorem dX9_isPlace_8 : decode cX9_isPlace 8 = .ok (.iconst 1, 1) := by decide +kernel
theorem dX9_isPlace_9 : decode cX9_isPlace 9 = .ok (.isub, 1) := by decide +kernel
theorem dX9_isPlace_10 : decode cX9_isPlace 10 = .ok (.invokestatic 91, 3) := by decide +kernel
theorem dX9_isPlace_13 : decode cX9_isPlace 13 = .ok (.ireturn, 1) := by decide +kernel
theorem dX9_put_0 : decode cX9_put 0 = .ok (.iload_n 1, 1) := by decide +kernel
theorem dX9_put_1 : decode cX9_put 1 = .ok (.invokestatic 336, 3) := by decide +kernel
theorem dX9_put_4 : decode cX9_put 4 = .ok (.ifCond .ne 5, 3) := by decide +kernel
theorem dX9_put_7 : decode cX9_put 7 = .ok (.iconst (-1), 1) := by decide +kernel
theorem dX9_put_8 : decode cX9_put 8 = .ok (.ireturn, 1) := by decide +kernel
theorem dX9_put_9 : decode cX9_put 9 = .ok (.aload_n 0, 1) := by decide +kernel
theorem dX9_put_10 : decode cX9_put 10 = .ok (.getfield 76, 3) := by decide +kernel
theorem dX9_put_13 : decode cX9_put 13 = .ok (.iload_n 1, 1) := by decide +kernel
theorem dX9_put_14 : decode cX9_put 14 = .ok (.iaload, 1) := by decide +kernel
theorem dX9_put_15 : decode cX9_put 15 = .ok (.ifCond .ge 6, 3) := by decide +kernel
theorem dX9_put_18 : decode cX9_put 18 = .ok (.bipush (-11), 2) := by decide +kernel
theorem dX9_put_20 : decode cX9_put 20 = .ok (.ireturn, 1) := by decide +kernel
theorem dX9_put_21 : decode cX9_put 21 = .ok (.aload_n 0, 1) := by decide +kernel
theorem dX9_put_22 : decode cX9_put 22 = .ok (.iload_n 1, 1) := by decide +kernel
theorem dX9_put_23 : decode cX9_put 23 = .ok (.iload_n 2, 1) := by decide +kernel
theorem dX9_put_24 : decode cX9_put 24 = .ok (.invokevirtual 345, 3) := by decide +kernel
theorem dX9_put_27 : decode cX9_put 27 = .ok (.ifCond .ne 6, 3) := by decide +kernel
theorem dX9_put_30 : decode cX9_put 30 = .ok (.bipush (-13), 2) := by decide +kernel
theorem dX9_put_32 : decode cX9_put 32 = .ok (.ireturn, 1) := by decide +kernel
theorem dX9_put_33 : decode cX9_put 33 = .ok (.aload_n 0, 1) := by decide +kernel
theorem dX9_put_34 : decode cX9_put 34 = .ok (.getfield 79, 3) := by decide +kernel
theorem dX9_put_37 : decode cX9_put 37 = .ok (.iload_n 1, 1) := by decide +kernel
theorem dX9_put_38 : decode cX9_put 38 = .ok (.aaload, 1) := by decide +kernel
theorem dX9_put_39 : decode cX9_put 39 = .ok (.iload_n 2, 1) := by decide +kernel
theorem dX9_put_40 : decode cX9_put 40 = .ok (.iload_n 3, 1) := by decide +kernel
theorem dX9_put_41 : decode cX9_put 41 = .ok (.iastore, 1) := by decide +kernel
theorem dX9_put_42 : decode cX9_put 42 = .ok (.iconst 1, 1) := by decide +kernel
theorem dX9_put_43 : decode cX9_put 43 = .ok (.ireturn, 1) := by decide +kernel
theorem dX9_get_0 : decode cX9_get 0 = .ok (.iload_n 1, 1) := by decide +kernel
theorem dX9_get_1 : decode cX9_get 1 = .ok (.invokestatic 336, 3) := by decide +kernel
theorem dX9_get_4 : decode cX9_get 4 = .ok (.ifCond .eq 33, 3) := by decide +kernel
theorem dX9_get_7 : decode cX9_get 7 = .ok (.aload_n 0, 1) := by decide +kernel
theorem dX9_get_8 : decode cX9_get 8 = .ok (.getfield 76, 3) := by decide +kernel
theorem dX9_get_11 : decode cX9_get 11 = .ok (.iload_n 1, 1) := by decide +kernel
theorem dX9_get_12 : decode cX9_get 12 = .ok (.iaload, 1) := by decide +kernel
theorem dX9_get_13 : decode cX9_get 13 = .ok (.ifCond .lt 24, 3) := by decide +kernel
theorem dX9_get_16 : decode cX9_get 16 = .ok (.aload_n 0, 1) := by decide +kernel
theorem dX9_get_17 : decode cX9_get 17 = .ok (.iload_n 1, 1) := by decide +kernel
theorem dX9_get_18 : decode cX9_get 18 = .ok (.iload_n 2, 1) := by decide +kernel
theorem dX9_get_19 : decode cX9_get 19 = .ok (.invokevirtual 345, 3) := by decide +kernel
theorem dX9_get_22 : decode cX9_get 22 = .ok (.ifCond .eq 15, 3) := by decide +kernel
theorem dX9_get_25 : decode cX9_get 25 = .ok (.aload_n 0, 1) := by decide +kernel
theorem dX9_get_26 : decode cX9_get 26 = .ok (.getfield 79, 3) := by decide +kernel
theorem dX9_get_29 : decode cX9_get 29 = .ok (.iload_n 1, 1) := by decide +kernel
theorem dX9_get_30 : decode cX9_get 30 = .ok (.aaload, 1) := by decide +kernel
theorem dX9_get_31 : decode cX9_get 31 = .ok (.iload_n 2, 1) := by decide +kernel
theorem dX9_get_32 : decode cX9_get 32 = .ok (.iaload, 1) := by decide +kernel
theorem dX9_get_33 : decode cX9_get 33 = .ok (.i2l, 1) := by decide +kernel
theorem dX9_get_34 : decode cX9_get 34 = .ok (.goto 6, 3) := by decide +kernel
theorem dX9_get_37 : decode cX9_get 37 = .ok (.ldc2_w 348, 3) := by decide +kernel
theorem dX9_get_40 : decode cX9_get 40 = .ok (.lreturn, 1) := by decide +kernel
theorem dX9_isSpan_0 : decode cX9_isSpan 0 = .ok (.iload_n 2, 1) := by decide +kernel
theorem dX9_isSpan_1 : decode cX9_isSpan 1 = .ok (.ifCond .lt 23, 3) := by decide +kernel
theorem dX9_isSpan_4 : decode cX9_isSpan 4 = .ok (.iload_n 3, 1) := by decide +kernel
theorem dX9_isSpan_5 : decode cX9_isSpan 5 = .ok (.ifCond .lt 19, 3) := by decide +kernel
theorem dX9_isSpan_8 : decode cX9_isSpan 8 = .ok (.iload_n 2, 1) := by decide +kernel
theorem dX9_isSpan_9 : decode cX9_isSpan 9 = .ok (.aload_n 0, 1) := by decide +kernel
theorem dX9_isSpan_10 : decode cX9_isSpan 10 = .ok (.getfield 76, 3) := by decide +kernel
theorem dX9_isSpan_13 : decode cX9_isSpan 13 = .ok (.iload_n 1, 1) := by decide +kernel
theorem dX9_isSpan_14 : decode cX9_isSpan 14 = .ok (.iaload, 1) := by decide +kernel
theorem dX9_isSpan_15 : decode cX9_isSpan 15 = .ok (.iload_n 3, 1) := by decide +kernel
theorem dX9_isSpan_16 : decode cX9_isSpan 16 = .ok (.isub, 1) := by decide +kernel
theorem dX9_isSpan_17 : decode cX9_isSpan 17 = .ok (.if_icmp .gt 7, 3) := by decide +kernel
theorem dX9_isSpan_20 : decode cX9_isSpan 20 = .ok (.iconst 1, 1) := by decide +kernel
theorem dX9_isSpan_21 : decode cX9_isSpan 21 = .ok (.goto 4, 3) := by decide +kernel
theorem dX9_isSpan_24 : decode cX9_isSpan 24 = .ok (.iconst 0, 1) := by decide +kernel
theorem dX9_isSpan_25 : decode cX9_isSpan 25 = .ok (.ireturn, 1) := by decide +kernel
theorem dX9_copy_0 : decode cX9_copy 0 = .ok (.iload_n 1, 1) := by decide +kernel
theorem dX9_copy_1 : decode cX9_copy 1 = .ok (.invokestatic 336, 3) := by decide +kernel
theorem dX9_copy_4 : decode cX9_copy 4 = .ok (.ifCond .eq 10, 3) := by decide +kernel
theorem dX9_copy_7 : decode cX9_copy 7 = .ok (.iload_n 3, 1) := by decide +kernel
theorem dX9_copy_8 : decode cX9_copy 8 = .ok (.invokestatic 336, 3) := by decide +kernel
theorem dX9_copy_11 : decode cX9_copy 11 = .ok (.ifCond .ne 5, 3) := by decide +kernel
theorem dX9_copy_14 : decode cX9_copy 14 = .ok (.iconst (-1), 1) := by decide +kernel
theorem dX9_copy_15 : decode cX9_copy 15 = .ok (.ireturn, 1) := by decide +kernel
theorem dX9_copy_16 : decode cX9_copy 16 = .ok (.aload_n 0, 1) := by decide +kernel
theorem dX9_copy_17 : decode cX9_copy 17 = .ok (.getfield 76, 3) := by decide +kernel
theorem dX9_copy_20 : decode cX9_copy 20 = .ok (.iload_n 1, 1) := by decide +kernel
theorem dX9_copy_21 : decode cX9_copy 21 = .ok (.iaload, 1) := by decide +kernel
theorem dX9_copy_22 : decode cX9_copy 22 = .ok (.ifCond .lt 12, 3) := by decide +kernel
theorem dX9_copy_25 : decode cX9_copy 25 = .ok (.aload_n 0, 1) := by decide +kernel
theorem dX9_copy_26 : decode cX9_copy 26 = .ok (.getfield 76, 3) := by decide +kernel
theorem dX9_copy_29 : decode cX9_copy 29 = .ok (.iload_n 3, 1) := by decide +kernel
theorem dX9_copy_30 : decode cX9_copy 30 = .ok (.iaload, 1) := by decide +kernel
theorem dX9_copy_31 : decode cX9_copy 31 = .ok (.ifCond .ge 6, 3) := by decide +kernel
theorem dX9_copy_34 : decode cX9_copy 34 = .ok (.bipush (-11), 2) := by decide +kernel
theorem dX9_copy_36 : decode cX9_copy 36 = .ok (.ireturn, 1) := by decide +kernel
theorem dX9_copy_37 : decode cX9_copy 37 = .ok (.aload_n 0, 1) := by decide +kernel
theorem dX9_copy_38 : decode cX9_copy 38 = .ok (.iload_n 1, 1) := by decide +kernel
theorem dX9_copy_39 : decode cX9_copy 39 = .ok (.iload_n 2, 1) := by decide +kernel
theorem dX9_copy_40 : decode cX9_copy 40 = .ok (.iload 5, 2) := by decide +kernel
theorem dX9_copy_42 : decode cX9_copy 42 = .ok (.invokevirtual 350, 3) := by decide +kernel
theorem dX9_copy_45 : decode cX9_copy 45 = .ok (.ifCond .eq 15, 3) := by decide +kernel
theorem dX9_copy_48 : decode cX9_copy 48 = .ok (.aload_n 0, 1) := by decide +kernel
theorem dX9_copy_49 : decode cX9_copy 49 = .ok (.iload_n 3, 1) := by decide +kernel
theorem dX9_copy_50 : decode cX9_copy 50 = .ok (.iload 4, 2) := by decide +kernel
theorem dX9_copy_52 : decode cX9_copy 52 = .ok (.iload 5, 2) := by decide +kernel
theorem dX9_copy_54 : decode cX9_copy 54 = .ok (.invokevirtual 350, 3) := by decide +kernel
theorem dX9_copy_57 : decode cX9_copy 57 = .ok (.ifCond .ne 6, 3) := by decide +kernel
theorem dX9_copy_60 : decode cX9_copy 60 = .ok (.bipush (-13), 2) := by decide +kernel
theorem dX9_copy_62 : decode cX9_copy 62 = .ok (.ireturn, 1) := by decide +kernel
theorem dX9_copy_63 : decode cX9_copy 63 = .ok (.aload_n 0, 1) := by decide +kernel
theorem dX9_copy_64 : decode cX9_copy 64 = .ok (.getfield 79, 3) := by decide +kernel
theorem dX9_copy_67 : decode cX9_copy 67 = .ok (.iload_n 1, 1) := by decide +kernel
theorem dX9_copy_68 : decode cX9_copy 68 = .ok (.aaload, 1) := by decide +kernel
theorem dX9_copy_69 : decode cX9_copy 69 = .ok (.iload_n 2, 1) := by decide +kernel
theorem dX9_copy_70 : decode cX9_copy 70 = .ok (.aload_n 0, 1) := by decide +kernel
theorem dX9_copy_71 : decode cX9_copy 71 = .ok (.getfield 79, 3) := by decide +kernel
theorem dX9_copy_74 : decode cX9_copy 74 = .ok (.iload_n 3, 1) := by decide +kernel
theorem dX9_copy_75 : decode cX9_copy 75 = .ok (.aaload, 1) := by decide +kernel
theorem dX9_copy_76 : decode cX9_copy 76 = .ok (.iload 4, 2) := by decide +kernel
theorem dX9_copy_78 : decode cX9_copy 78 = .ok (.iload 5, 2) := by decide +kernel
theorem dX9_copy_80 : decode cX9_copy 80 = .ok (.invokestatic 101, 3) := by decide +kernel
theorem dX9_copy_83 : decode cX9_copy 83 = .ok (.iload 5, 2) := by decide +kernel
theorem dX9_copy_85 : decode cX9_copy 85 = .ok (.ireturn, 1) := by decide +kernel
theorem dX9_image_0 : decode cX9_image 0 = .ok (.aload_n 0, 1) := by decide +kernel
theorem dX9_image_1 : decode cX9_image 1 = .ok (.iconst 1, 1) := by decide +kernel
theorem dX9_image_2 : decode cX9_image 2 = .ok (.putfield 353, 3) := by decide +kernel
theorem dX9_image_5 : decode cX9_image 5 = .ok (.aload_n 0, 1) := by decide +kernel
theorem dX9_image_6 : decode cX9_image 6 = .ok (.aload_n 0, 1) := by decide +kernel
theorem dX9_image_7 : decode cX9_image 7 = .ok (.getfield 9, 3) := by decide +kernel
theorem dX9_image_10 : decode cX9_image 10 = .ok (.putfield 357, 3) := by decide +kernel
theorem dX9_image_13 : decode cX9_image 13 = .ok (.aload_n 0, 1) := by decide +kernel
theorem dX9_image_14 : decode cX9_image 14 = .ok (.aload_n 0, 1) := by decide +kernel
theorem dX9_image_15 : decode cX9_image 15 = .ok (.getfield 214, 3) := by decide +kernel
theorem dX9_image_18 : decode cX9_image 18 = .ok (.putfield 360, 3) := by decide +kernel
theorem dX9_image_21 : decode cX9_image 21 = .ok (.aload_n 0, 1) := by decide +kernel
theorem dX9_image_22 : decode cX9_image 22 = .ok (.getfield 15, 3) := by decide +kernel
theorem dX9_image_25 : decode cX9_image 25 = .ok (.aload_n 0, 1) := by decide +kernel
theorem dX9_image_26 : decode cX9_image 26 = .ok (.getfield 82, 3) := by decide +kernel
theorem dX9_image_29 : decode cX9_image 29 = .ok (.invokestatic 123, 3) := by decide +kernel
theorem dX9_image_32 : decode cX9_image 32 = .ok (.iconst 0, 1) := by decide +kernel
theorem dX9_image_33 : decode cX9_image 33 = .ok (.istore_n 1, 1) := by decide +kernel
theorem dX9_image_34 : decode cX9_image 34 = .ok (.iload_n 1, 1) := by decide +kernel
theorem dX9_image_35 : decode cX9_image 35 = .ok (.iconst 4, 1) := by decide +kernel
theorem dX9_image_36 : decode cX9_image 36 = .ok (.if_icmp .ge 24, 3) := by decide +kernel
theorem dX9_image_39 : decode cX9_image 39 = .ok (.aload_n 0, 1) := by decide +kernel
theorem dX9_image_40 : decode cX9_image 40 = .ok (.getfield 51, 3) := by decide +kernel
theorem dX9_image_43 : decode cX9_image 43 = .ok (.iload_n 1, 1) := by decide +kernel
theorem dX9_image_44 : decode cX9_image 44 = .ok (.aaload, 1) := by decide +kernel
theorem dX9_image_45 : decode cX9_image 45 = .ok (.aload_n 0, 1) := by decide +kernel
theorem dX9_image_46 : decode cX9_image 46 = .ok (.getfield 85, 3) := by decide +kernel
theorem dX9_image_49 : decode cX9_image 49 = .ok (.iload_n 1, 1) := by decide +kernel
theorem dX9_image_50 : decode cX9_image 50 = .ok (.aaload, 1) := by decide +kernel
theorem dX9_image_51 : decode cX9_image 51 = .ok (.invokestatic 123, 3) := by decide +kernel
theorem dX9_image_54 : decode cX9_image 54 = .ok (.iinc 1 1, 3) := by decide +kernel
theorem dX9_image_57 : decode cX9_image 57 = .ok (.goto (-23), 3) := by decide +kernel
theorem dX9_image_60 : decode cX9_image 60 = .ok (.aload_n 0, 1) := by decide +kernel
theorem dX9_image_61 : decode cX9_image 61 = .ok (.getfield 54, 3) := by decide +kernel
theorem dX9_image_64 : decode cX9_image 64 = .ok (.iconst 0, 1) := by decide +kernel
theorem dX9_image_65 : decode cX9_image 65 = .ok (.aload_n 0, 1) := by decide +kernel
theorem dX9_image_66 : decode cX9_image 66 = .ok (.getfield 88, 3) := by decide +kernel
theorem dX9_image_69 : decode cX9_image 69 = .ok (.iconst 0, 1) := by decide +kernel
theorem dX9_image_70 : decode cX9_image 70 = .ok (.iconst 4, 1) := by decide +kernel
theorem dX9_image_71 : decode cX9_image 71 = .ok (.invokestatic 101, 3) := by decide +kernel
theorem dX9_image_74 : decode cX9_image 74 = .ok (.aload_n 0, 1) := by decide +kernel
theorem dX9_image_75 : decode cX9_image 75 = .ok (.getfield 15, 3) := by decide +kernel
theorem dX9_image_78 : decode cX9_image 78 = .ok (.invokestatic 140, 3) := by decide +kernel
theorem dX9_image_81 : decode cX9_image 81 = .ok (.ireturn, 1) := by decide +kernel
theorem dX9_undo_0 : decode cX9_undo 0 = .ok (.aload_n 0, 1) := by decide +kernel
theorem dX9_undo_1 : decode cX9_undo 1 = .ok (.getfield 353, 3) := by decide +kernel
theorem dX9_undo_4 : decode cX9_undo 4 = .ok (.ifCond .ne 6, 3) := by decide +kernel
theorem dX9_undo_7 : decode cX9_undo 7 = .ok (.bipush (-3), 2) := by decide +kernel
theorem dX9_undo_9 : decode cX9_undo 9 = .ok (.ireturn, 1) := by decide +kernel
theorem dX9_undo_10 : decode cX9_undo 10 = .ok (.aload_n 0, 1) := by decide +kernel
theorem dX9_undo_11 : decode cX9_undo 11 = .ok (.aload_n 0, 1) := by decide +kernel
theorem dX9_undo_12 : decode cX9_undo 12 = .ok (.getfield 357, 3) := by decide +kernel
theorem dX9_undo_15 : decode cX9_undo 15 = .ok (.putfield 9, 3) := by decide +kernel
theorem dX9_undo_18 : decode cX9_undo 18 = .ok (.aload_n 0, 1) := by decide +kernel
theorem dX9_undo_19 : decode cX9_undo 19 = .ok (.aload_n 0, 1) := by decide +kernel
theorem dX9_undo_20 : decode cX9_undo 20 = .ok (.getfield 360, 3) := by decide +kernel
theorem dX9_undo_23 : decode cX9_undo 23 = .ok (.putfield 214, 3) := by decide +kernel
theorem dX9_undo_26 : decode cX9_undo 26 = .ok (.aload_n 0, 1) := by decide +kernel
theorem dX9_undo_27 : decode cX9_undo 27 = .ok (.getfield 82, 3) := by decide +kernel
theorem dX9_undo_30 : decode cX9_undo 30 = .ok (.aload_n 0, 1) := by decide +kernel
theorem dX9_undo_31 : decode cX9_undo 31 = .ok (.getfield 15, 3) := by decide +kernel
theorem dX9_undo_34 : decode cX9_undo 34 = .ok (.invokestatic 123, 3) := by decide +kernel
theorem dX9_undo_37 : decode cX9_undo 37 = .ok (.iconst 0, 1) := by decide +kernel
theorem dX9_undo_38 : decode cX9_undo 38 = .ok (.istore_n 1, 1) := by decide +kernel
theorem dX9_undo_39 : decode cX9_undo 39 = .ok (.iload_n 1, 1) := by decide +kernel
theorem dX9_undo_40 : decode cX9_undo 40 = .ok (.iconst 4, 1) := by decide +kernel
theorem dX9_undo_41 : decode cX9_undo 41 = .ok (.if_icmp .ge 24, 3) := by decide +kernel
theorem dX9_undo_44 : decode cX9_undo 44 = .ok (.aload_n 0, 1) := by decide +kernel
theorem dX9_undo_45 : decode cX9_undo 45 = .ok (.getfield 85, 3) := by decide +kernel
theorem dX9_undo_48 : decode cX9_undo 48 = .ok (.iload_n 1, 1) := by decide +kernel
theorem dX9_undo_49 : decode cX9_undo 49 = .ok (.aaload, 1) := by decide +kernel
theorem dX9_undo_50 : decode cX9_undo 50 = .ok (.aload_n 0, 1) := by decide +kernel
theorem dX9_undo_51 : decode cX9_undo 51 = .ok (.getfield 51, 3) := by decide +kernel
theorem dX9_undo_54 : decode cX9_undo 54 = .ok (.iload_n 1, 1) := by decide +kernel
theorem dX9_undo_55 : decode cX9_undo 55 = .ok (.aaload, 1) := by decide +kernel
theorem dX9_undo_56 : decode cX9_undo 56 = .ok (.invokestatic 123, 3) := by decide +kernel
theorem dX9_undo_59 : decode cX9_undo 59 = .ok (.iinc 1 1, 3) := by decide +kernel
theorem dX9_undo_62 : decode cX9_undo 62 = .ok (.goto (-23), 3) := by decide +kernel
theorem dX9_undo_65 : decode cX9_undo 65 = .ok (.aload_n 0, 1) := by decide +kernel
theorem dX9_undo_66 : decode cX9_undo 66 = .ok (.getfield 88, 3) := by decide +kernel
theorem dX9_undo_69 : decode cX9_undo 69 = .ok (.iconst 0, 1) := by decide +kernel
theorem dX9_undo_70 : decode cX9_undo 70 = .ok (.aload_n 0, 1) := by decide +kernel
theorem dX9_undo_71 : decode cX9_undo 71 = .ok (.getfield 54, 3) := by decide +kernel
theorem dX9_undo_74 : decode cX9_undo 74 = .ok (.iconst 0, 1) := by decide +kernel
theorem dX9_undo_75 : decode cX9_undo 75 = .ok (.iconst 4, 1) := by decide +kernel
theorem dX9_undo_76 : decode cX9_undo 76 = .ok (.invokestatic 101, 3) := by decide +kernel
theorem dX9_undo_79 : decode cX9_undo 79 = .ok (.aload_n 0, 1) := by decide +kernel
theorem dX9_undo_80 : decode cX9_undo 80 = .ok (.iconst 0, 1) := by decide +kernel
theorem dX9_undo_81 : decode cX9_undo 81 = .ok (.putfield 120, 3) := by decide +kernel
theorem dX9_undo_84 : decode cX9_undo 84 = .ok (.aload_n 0, 1) := by decide +kernel
theorem dX9_undo_85 : decode cX9_undo 85 = .ok (.getfield 15, 3) := by decide +kernel
theorem dX9_undo_88 : decode cX9_undo 88 = .ok (.invokestatic 140, 3) := by decide +kernel
theorem dX9_undo_91 : decode cX9_undo 91 = .ok (.ireturn, 1) := by decide +kernel
theorem dX9_count_0 : decode cX9_count 0 = .ok (.iload_n 1, 1) := by decide +kernel
theorem dX9_count_1 : decode cX9_count 1 = .ok (.tableswitch 63 0 4 #[35, 43, 48, 53, 58], 35) := by decide +kernel
theorem dX9_count_36 : decode cX9_count 36 = .ok (.aload_n 0, 1) := by decide +kernel
theorem dX9_count_37 : decode cX9_count 37 = .ok (.getfield 15, 3) := by decide +kernel
theorem dX9_count_40 : decode cX9_count 40 = .ok (.invokestatic 140, 3) := by decide +kernel
theorem dX9_count_43 : decode cX9_count 43 = .ok (.ireturn, 1) := by decide +kernel
theorem dX9_count_44 : decode cX9_count 44 = .ok (.aload_n 0, 1) := by decide +kernel
theorem dX9_count_45 : decode cX9_count 45 = .ok (.getfield 214, 3) := by decide +kernel
theorem dX9_count_48 : decode cX9_count 48 = .ok (.ireturn, 1) := by decide +kernel
theorem dX9_count_49 : decode cX9_count 49 = .ok (.aload_n 0, 1) := by decide +kernel
theorem dX9_count_50 : decode cX9_count 50 = .ok (.getfield 120, 3) := by decide +kernel
theorem dX9_count_53 : decode cX9_count 53 = .ok (.ireturn, 1) := by decide +kernel
theorem dX9_count_54 : decode cX9_count 54 = .ok (.aload_n 0, 1) := by decide +kernel
theorem dX9_count_55 : decode cX9_count 55 = .ok (.getfield 243, 3) := by decide +kernel
theorem dX9_count_58 : decode cX9_count 58 = .ok (.ireturn, 1) := by decide +kernel
theorem dX9_count_59 : decode cX9_count 59 = .ok (.aload_n 0, 1) := by decide +kernel
theorem dX9_count_60 : decode cX9_count 60 = .ok (.getfield 330, 3) := by decide +kernel
theorem dX9_count_63 : decode cX9_count 63 = .ok (.ireturn, 1) := by decide +kernel
theorem dX9_count_64 : decode cX9_count 64 = .ok (.bipush (-2), 2) := by decide +kernel
theorem dX9_count_66 : decode cX9_count 66 = .ok (.ireturn, 1) := by decide +kernel
