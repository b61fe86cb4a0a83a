theorem dX10_init_0 : decode cX10_init 0 = .ok (.aload_n 0, 1) := by decide +kernel
theorem dX10_init_1 : decode cX10_init 1 = .ok (.invokespecial 1, 3) := by decide +kernel
theorem dX10_init_4 : decode cX10_init 4 = .ok (.aload_n 0, 1) := by decide +kernel
theorem dX10_init_5 : decode cX10_init 5 = .ok (.bipush 16, 2) := by decide +kernel
theorem dX10_init_7 : decode cX10_init 7 = .ok (.newarray .int, 2) := by decide +kernel
theorem dX10_init_9 : decode cX10_init 9 = .ok (.putfield 7, 3) := by decide +kernel
theorem dX10_init_12 : decode cX10_init 12 = .ok (.aload_n 0, 1) := by decide +kernel
theorem dX10_init_13 : decode cX10_init 13 = .ok (.bipush 16, 2) := by decide +kernel
theorem dX10_init_15 : decode cX10_init 15 = .ok (.newarray .int, 2) := by decide +kernel
theorem dX10_init_17 : decode cX10_init 17 = .ok (.putfield 13, 3) := by decide +kernel
theorem dX10_init_20 : decode cX10_init 20 = .ok (.aload_n 0, 1) := by decide +kernel
theorem dX10_init_21 : decode cX10_init 21 = .ok (.bipush 16, 2) := by decide +kernel
theorem dX10_init_23 : decode cX10_init 23 = .ok (.newarray .int, 2) := by decide +kernel
theorem dX10_init_25 : decode cX10_init 25 = .ok (.putfield 16, 3) := by decide +kernel
theorem dX10_init_28 : decode cX10_init 28 = .ok (.aload_n 0, 1) := by decide +kernel
theorem dX10_init_29 : decode cX10_init 29 = .ok (.bipush 16, 2) := by decide +kernel
theorem dX10_init_31 : decode cX10_init 31 = .ok (.newarray .boolean, 2) := by decide +kernel
theorem dX10_init_33 : decode cX10_init 33 = .ok (.putfield 19, 3) := by decide +kernel
theorem dX10_init_36 : decode cX10_init 36 = .ok (.aload_n 0, 1) := by decide +kernel
theorem dX10_init_37 : decode cX10_init 37 = .ok (.sipush 300, 3) := by decide +kernel
theorem dX10_init_40 : decode cX10_init 40 = .ok (.putfield 23, 3) := by decide +kernel
theorem dX10_init_43 : decode cX10_init 43 = .ok (.aload_n 0, 1) := by decide +kernel
theorem dX10_init_44 : decode cX10_init 44 = .ok (.iconst 2, 1) := by decide +kernel
theorem dX10_init_45 : decode cX10_init 45 = .ok (.putfield 27, 3) := by decide +kernel
theorem dX10_init_48 : decode cX10_init 48 = .ok (.aload_n 0, 1) := by decide +kernel
theorem dX10_init_49 : decode cX10_init 49 = .ok (.sipush 820, 3) := by decide +kernel
theorem dX10_init_52 : decode cX10_init 52 = .ok (.newarray .byte, 2) := by decide +kernel
theorem dX10_init_54 : decode cX10_init 54 = .ok (.putfield 30, 3) := by decide +kernel
theorem dX10_init_57 : decode cX10_init 57 = .ok (.aload_n 0, 1) := by decide +kernel
theorem dX10_init_58 : decode cX10_init 58 = .ok (.sipush 800, 3) := by decide +kernel
theorem dX10_init_61 : decode cX10_init 61 = .ok (.newarray .byte, 2) := by decide +kernel
theorem dX10_init_63 : decode cX10_init 63 = .ok (.putfield 34, 3) := by decide +kernel
theorem dX10_init_66 : decode cX10_init 66 = .ok (.aload_n 0, 1) := by decide +kernel
theorem dX10_init_67 : decode cX10_init 67 = .ok (.iconst (-1), 1) := by decide +kernel
theorem dX10_init_68 : decode cX10_init 68 = .ok (.putfield 37, 3) := by decide +kernel
theorem dX10_init_71 : decode cX10_init 71 = .ok (.aload_n 0, 1) := by decide +kernel
theorem dX10_init_72 : decode cX10_init 72 = .ok (.iconst 2, 1) := by decide +kernel
theorem dX10_init_73 : decode cX10_init 73 = .ok (.newarray .int, 2) := by decide +kernel
theorem dX10_init_75 : decode cX10_init 75 = .ok (.putfield 40, 3) := by decide +kernel
theorem dX10_init_78 : decode cX10_init 78 = .ok (.aload_n 0, 1) := by decide +kernel
theorem dX10_init_79 : decode cX10_init 79 = .ok (.bipush 40, 2) := by decide +kernel
theorem dX10_init_81 : decode cX10_init 81 = .ok (.newarray .int, 2) := by decide +kernel
theorem dX10_init_83 : decode cX10_init 83 = .ok (.putfield 43, 3) := by decide +kernel
theorem dX10_init_86 : decode cX10_init 86 = .ok (.aload_n 0, 1) := by decide +kernel
theorem dX10_init_87 : decode cX10_init 87 = .ok (.bipush 40, 2) := by decide +kernel
theorem dX10_init_89 : decode cX10_init 89 = .ok (.newarray .int, 2) := by decide +kernel
theorem dX10_init_91 : decode cX10_init 91 = .ok (.putfield 46, 3) := by decide +kernel
theorem dX10_init_94 : decode cX10_init 94 = .ok (.aload_n 0, 1) := by decide +kernel
theorem dX10_init_95 : decode cX10_init 95 = .ok (.bipush 40, 2) := by decide +kernel
theorem dX10_init_97 : decode cX10_init 97 = .ok (.newarray .int, 2) := by decide +kernel
theorem dX10_init_99 : decode cX10_init 99 = .ok (.putfield 49, 3) := by decide +kernel
theorem dX10_init_102 : decode cX10_init 102 = .ok (.aload_n 0, 1) := by decide +kernel
theorem dX10_init_103 : decode cX10_init 103 = .ok (.bipush 40, 2) := by decide +kernel
theorem dX10_init_105 : decode cX10_init 105 = .ok (.newarray .int, 2) := by decide +kernel
theorem dX10_init_107 : decode cX10_init 107 = .ok (.putfield 52, 3) := by decide +kernel
theorem dX10_init_110 : decode cX10_init 110 = .ok (.aload_n 0, 1) := by decide +kernel
theorem dX10_init_111 : decode cX10_init 111 = .ok (.bipush 40, 2) := by decide +kernel
theorem dX10_init_113 : decode cX10_init 113 = .ok (.newarray .int, 2) := by decide +kernel
theorem dX10_init_115 : decode cX10_init 115 = .ok (.putfield 55, 3) := by decide +kernel
theorem dX10_init_118 : decode cX10_init 118 = .ok (.aload_n 0, 1) := by decide +kernel
theorem dX10_init_119 : decode cX10_init 119 = .ok (.ldc 58, 2) := by decide +kernel
theorem dX10_init_121 : decode cX10_init 121 = .ok (.newarray .int, 2) := by decide +kernel
theorem dX10_init_123 : decode cX10_init 123 = .ok (.putfield 59, 3) := by decide +kernel
theorem dX10_init_126 : decode cX10_init 126 = .ok (.aload_n 0, 1) := by decide +kernel
theorem dX10_init_127 : decode cX10_init 127 = .ok (.bipush 64, 2) := by decide +kernel
theorem dX10_init_129 : decode cX10_init 129 = .ok (.newarray .int, 2) := by decide +kernel
theorem dX10_init_131 : decode cX10_init 131 = .ok (.putfield 62, 3) := by decide +kernel
theorem dX10_init_134 : decode cX10_init 134 = .ok (.aload_n 0, 1) := by decide +kernel
theorem dX10_init_135 : decode cX10_init 135 = .ok (.bipush 8, 2) := by decide +kernel
theorem dX10_init_137 : decode cX10_init 137 = .ok (.newarray .int, 2) := by decide +kernel
theorem dX10_init_139 : decode cX10_init 139 = .ok (.putfield 65, 3) := by decide +kernel
theorem dX10_init_142 : decode cX10_init 142 = .ok (.aload_n 0, 1) := by decide +kernel
theorem dX10_init_143 : decode cX10_init 143 = .ok (.bipush 8, 2) := by decide +kernel
theorem dX10_init_145 : decode cX10_init 145 = .ok (.newarray .int, 2) := by decide +kernel
theorem dX10_init_147 : decode cX10_init 147 = .ok (.putfield 68, 3) := by decide +kernel
theorem dX10_init_150 : decode cX10_init 150 = .ok (.aload_n 0, 1) := by decide +kernel
theorem dX10_init_151 : decode cX10_init 151 = .ok (.iconst 3, 1) := by decide +kernel
theorem dX10_init_152 : decode cX10_init 152 = .ok (.newarray .int, 2) := by decide +kernel
theorem dX10_init_154 : decode cX10_init 154 = .ok (.putfield 71, 3) := by decide +kernel
theorem dX10_init_157 : decode cX10_init 157 = .ok (.aload_n 0, 1) := by decide +kernel
theorem dX10_init_158 : decode cX10_init 158 = .ok (.sipush 2048, 3) := by decide +kernel
theorem dX10_init_161 : decode cX10_init 161 = .ok (.newarray .int, 2) := by decide +kernel
theorem dX10_init_163 : decode cX10_init 163 = .ok (.putfield 74, 3) := by decide +kernel
theorem dX10_init_166 : decode cX10_init 166 = .ok (.aload_n 0, 1) := by decide +kernel
theorem dX10_init_167 : decode cX10_init 167 = .ok (.bipush 8, 2) := by decide +kernel
theorem dX10_init_169 : decode cX10_init 169 = .ok (.newarray .int, 2) := by decide +kernel
theorem dX10_init_171 : decode cX10_init 171 = .ok (.putfield 77, 3) := by decide +kernel
theorem dX10_init_174 : decode cX10_init 174 = .ok (.aload_n 0, 1) := by decide +kernel
theorem dX10_init_175 : decode cX10_init 175 = .ok (.bipush 8, 2) := by decide +kernel
theorem dX10_init_177 : decode cX10_init 177 = .ok (.newarray .int, 2) := by decide +kernel
theorem dX10_init_179 : decode cX10_init 179 = .ok (.putfield 80, 3) := by decide +kernel
theorem dX10_init_182 : decode cX10_init 182 = .ok (.aload_n 0, 1) := by decide +kernel
theorem dX10_init_183 : decode cX10_init 183 = .ok (.bipush 8, 2) := by decide +kernel
theorem dX10_init_185 : decode cX10_init 185 = .ok (.newarray .int, 2) := by decide +kernel
theorem dX10_init_187 : decode cX10_init 187 = .ok (.putfield 83, 3) := by decide +kernel
theorem dX10_init_190 : decode cX10_init 190 = .ok (.aload_n 0, 1) := by decide +kernel
theorem dX10_init_191 : decode cX10_init 191 = .ok (.bipush 8, 2) := by decide +kernel
theorem dX10_init_193 : decode cX10_init 193 = .ok (.newarray .int, 2) := by decide +kernel
theorem dX10_init_195 : decode cX10_init 195 = .ok (.putfield 86, 3) := by decide +kernel
theorem dX10_init_198 : decode cX10_init 198 = .ok (.aload_n 0, 1) := by decide +kernel
theorem dX10_init_199 : decode cX10_init 199 = .ok (.bipush 60, 2) := by decide +kernel
theorem dX10_init_201 : decode cX10_init 201 = .ok (.newarray .int, 2) := by decide +kernel
theorem dX10_init_203 : decode cX10_init 203 = .ok (.putfield 89, 3) := by decide +kernel
theorem dX10_init_206 : decode cX10_init 206 = .ok (.aload_n 0, 1) := by decide +kernel
theorem dX10_init_207 : decode cX10_init 207 = .ok (.bipush 60, 2) := by decide +kernel
theorem dX10_init_209 : decode cX10_init 209 = .ok (.newarray .int, 2) := by decide +kernel
theorem dX10_init_211 : decode cX10_init 211 = .ok (.putfield 92, 3) := by decide +kernel
theorem dX10_init_214 : decode cX10_init 214 = .ok (.aload_n 0, 1) := by decide +kernel
theorem dX10_init_215 : decode cX10_init 215 = .ok (.bipush 60, 2) := by decide +kernel
theorem dX10_init_217 : decode cX10_init 217 = .ok (.newarray .int, 2) := by decide +kernel
theorem dX10_init_219 : decode cX10_init 219 = .ok (.putfield 95, 3) := by decide +kernel
theorem dX10_init_222 : decode cX10_init 222 = .ok (.aload_n 0, 1) := by decide +kernel
theorem dX10_init_223 : decode cX10_init 223 = .ok (.bipush 60, 2) := by decide +kernel
theorem dX10_init_225 : decode cX10_init 225 = .ok (.newarray .int, 2) := by decide +kernel
theorem dX10_init_227 : decode cX10_init 227 = .ok (.putfield 98, 3) := by decide +kernel
theorem dX10_init_230 : decode cX10_init 230 = .ok (.aload_n 0, 1) := by decide +kernel
theorem dX10_init_231 : decode cX10_init 231 = .ok (.bipush 60, 2) := by decide +kernel
theorem dX10_init_233 : decode cX10_init 233 = .ok (.newarray .int, 2) := by decide +kernel
theorem dX10_init_235 : decode cX10_init 235 = .ok (.putfield 101, 3) := by decide +kernel
theorem dX10_init_238 : decode cX10_init 238 = .ok (.return_, 1) := by decide +kernel
theorem dX10_isCrossing_0 : decode cX10_isCrossing 0 = .ok (.iload_n 1, 1) := by decide +kernel
theorem dX10_isCrossing_1 : decode cX10_isCrossing 1 = .ok (.ifCond .lt 15, 3) := by decide +kernel
theorem dX10_isCrossing_4 : decode cX10_isCrossing 4 = .ok (.iload_n 1, 1) := by decide +kernel
theorem dX10_isCrossing_5 : decode cX10_isCrossing 5 = .ok (.aload_n 0, 1) := by decide +kernel
theorem dX10_isCrossing_6 : decode cX10_isCrossing 6 = .ok (.getfield 104, 3) := by decide +kernel
theorem dX10_isCrossing_9 : decode cX10_isCrossing 9 = .ok (.if_icmp .ge 7, 3) := by decide +kernel
theorem dX10_isCrossing_12 : decode cX10_isCrossing 12 = .ok (.iconst 1, 1) := by decide +kernel
theorem dX10_isCrossing_13 : decode cX10_isCrossing 13 = .ok (.goto 4, 3) := by decide +kernel
theorem dX10_isCrossing_16 : decode cX10_isCrossing 16 = .ok (.iconst 0, 1) := by decide +kernel
theorem dX10_isCrossing_17 : decode cX10_isCrossing 17 = .ok (.ireturn, 1) := by decide +kernel
theorem dX10_isStreet_0 : decode cX10_isStreet 0 = .ok (.iload_n 1, 1) := by decide +kernel
theorem dX10_isStreet_1 : decode cX10_isStreet 1 = .ok (.ifCond .lt 15, 3) := by decide +kernel
theorem dX10_isStreet_4 : decode cX10_isStreet 4 = .ok (.iload_n 1, 1) := by decide +kernel
theorem dX10_isStreet_5 : decode cX10_isStreet 5 = .ok (.aload_n 0, 1) := by decide +kernel
theorem dX10_isStreet_6 : decode cX10_isStreet 6 = .ok (.getfield 107, 3) := by decide +kernel
theorem dX10_isStreet_9 : decode cX10_isStreet 9 = .ok (.if_icmp .ge 7, 3) := by decide +kernel
theorem dX10_isStreet_12 : decode cX10_isStreet 12 = .ok (.iconst 1, 1) := by decide +kernel
theorem dX10_isStreet_13 : decode cX10_isStreet 13 = .ok (.goto 4, 3) := by decide +kernel
theorem dX10_isStreet_16 : decode cX10_isStreet 16 = .ok (.iconst 0, 1) := by decide +kernel
theorem dX10_isStreet_17 : decode cX10_isStreet 17 = .ok (.ireturn, 1) := by decide +kernel
theorem dX10_crossing_0 : decode cX10_crossing 0 = .ok (.aload_n 0, 1) := by decide +kernel
theorem dX10_crossing_1 : decode cX10_crossing 1 = .ok (.getfield 104, 3) := by decide +kernel
theorem dX10_crossing_4 : decode cX10_crossing 4 = .ok (.bipush 8, 2) := by decide +kernel
theorem dX10_crossing_6 : decode cX10_crossing 6 = .ok (.if_icmp .ne 5, 3) := by decide +kernel
theorem dX10_crossing_9 : decode cX10_crossing 9 = .ok (.iconst (-1), 1) := by decide +kernel
theorem dX10_crossing_10 : decode cX10_crossing 10 = .ok (.ireturn, 1) := by decide +kernel
theorem dX10_crossing_11 : decode cX10_crossing 11 = .ok (.aload_n 0, 1) := by decide +kernel
theorem dX10_crossing_12 : decode cX10_crossing 12 = .ok (.dup, 1) := by decide +kernel
theorem dX10_crossing_13 : decode cX10_crossing 13 = .ok (.getfield 104, 3) := by decide +kernel
theorem dX10_crossing_16 : decode cX10_crossing 16 = .ok (.iconst 1, 1) := by decide +kernel
theorem dX10_crossing_17 : decode cX10_crossing 17 = .ok (.iadd, 1) := by decide +kernel
theorem dX10_crossing_18 : decode cX10_crossing 18 = .ok (.putfield 104, 3) := by decide +kernel
theorem dX10_crossing_21 : decode cX10_crossing 21 = .ok (.aload_n 0, 1) := by decide +kernel
theorem dX10_crossing_22 : decode cX10_crossing 22 = .ok (.getfield 104, 3) := by decide +kernel
theorem dX10_crossing_25 : decode cX10_crossing 25 = .ok (.iconst 1, 1) := by decide +kernel
theorem dX10_crossing_26 : decode cX10_crossing 26 = .ok (.isub, 1) := by decide +kernel
theorem dX10_crossing_27 : decode cX10_crossing 27 = .ok (.ireturn, 1) := by decide +kernel
theorem dX10_street_0 : decode cX10_street 0 = .ok (.aload_n 0, 1) := by decide +kernel
theorem dX10_street_1 : decode cX10_street 1 = .ok (.iload_n 1, 1) := by decide +kernel
theorem dX10_street_2 : decode cX10_street 2 = .ok (.invokevirtual 110, 3) := by decide +kernel
theorem dX10_street_5 : decode cX10_street 5 = .ok (.ifCond .eq 36, 3) := by decide +kernel
theorem dX10_street_8 : decode cX10_street 8 = .ok (.aload_n 0, 1) := by decide +kernel
theorem dX10_street_9 : decode cX10_street 9 = .ok (.iload_n 2, 1) := by decide +kernel
theorem dX10_street_10 : decode cX10_street 10 = .ok (.invokevirtual 110, 3) := by decide +kernel
theorem dX10_street_13 : decode cX10_street 13 = .ok (.ifCond .eq 28, 3) := by decide +kernel
theorem dX10_street_16 : decode cX10_street 16 = .ok (.iload_n 1, 1) := by decide +kernel
theorem dX10_street_17 : decode cX10_street 17 = .ok (.iload_n 2, 1) := by decide +kernel
theorem dX10_street_18 : decode cX10_street 18 = .ok (.if_icmp .eq 23, 3) := by decide +kernel
theorem dX10_street_21 : decode cX10_street 21 = .ok (.iload_n 3, 1) := by decide +kernel
theorem dX10_street_22 : decode cX10_street 22 = .ok (.iconst 1, 1) := by decide +kernel
theorem dX10_street_23 : decode cX10_street 23 = .ok (.if_icmp .lt 18, 3) := by decide +kernel
theorem dX10_street_26 : decode cX10_street 26 = .ok (.iload_n 3, 1) := by decide +kernel
theorem dX10_street_27 : decode cX10_street 27 = .ok (.bipush 60, 2) := by decide +kernel
theorem dX10_street_29 : decode cX10_street 29 = .ok (.if_icmp .gt 12, 3) := by decide +kernel
theorem dX10_street_32 : decode cX10_street 32 = .ok (.aload_n 0, 1) := by decide +kernel
theorem dX10_street_33 : decode cX10_street 33 = .ok (.getfield 107, 3) := by decide +kernel
theorem dX10_street_36 : decode cX10_street 36 = .ok (.bipush 16, 2) := by decide +kernel
theorem dX10_street_38 : decode cX10_street 38 = .ok (.if_icmp .ne 5, 3) := by decide +kernel
theorem dX10_street_41 : decode cX10_street 41 = .ok (.iconst (-1), 1) := by decide +kernel
theorem dX10_street_42 : decode cX10_street 42 = .ok (.ireturn, 1) := by decide +kernel
theorem dX10_street_43 : decode cX10_street 43 = .ok (.aload_n 0, 1) := by decide +kernel
theorem dX10_street_44 : decode cX10_street 44 = .ok (.getfield 7, 3) := by decide +kernel
theorem dX10_street_47 : decode cX10_street 47 = .ok (.aload_n 0, 1) := by decide +kernel
theorem dX10_street_48 : decode cX10_street 48 = .ok (.getfield 107, 3) := by decide +kernel
theorem dX10_street_51 : decode cX10_street 51 = .ok (.iload_n 1, 1) := by decide +kernel
theorem dX10_street_52 : decode cX10_street 52 = .ok (.iastore, 1) := by decide +kernel
theorem dX10_street_53 : decode cX10_street 53 = .ok (.aload_n 0, 1) := by decide +kernel
theorem dX10_street_54 : decode cX10_street 54 = .ok (.getfield 13, 3) := by decide +kernel
theorem dX10_street_57 : decode cX10_street 57 = .ok (.aload_n 0, 1) := by decide +kernel
theorem dX10_street_58 : decode cX10_street 58 = .ok (.getfield 107, 3) := by decide +kernel
theorem dX10_street_61 : decode cX10_street 61 = .ok (.iload_n 2, 1) := by decide +kernel
theorem dX10_street_62 : decode cX10_street 62 = .ok (.iastore, 1) := by decide +kernel
theorem dX10_street_63 : decode cX10_street 63 = .ok (.aload_n 0, 1) := by decide +kernel
theorem dX10_street_64 : decode cX10_street 64 = .ok (.getfield 16, 3) := by decide +kernel
theorem dX10_street_67 : decode cX10_street 67 = .ok (.aload_n 0, 1) := by decide +kernel
theorem dX10_street_68 : decode cX10_street 68 = .ok (.getfield 107, 3) := by decide +kernel
theorem dX10_street_71 : decode cX10_street 71 = .ok (.iload_n 3, 1) := by decide +kernel
theorem dX10_street_72 : decode cX10_street 72 = .ok (.iastore, 1) := by decide +kernel
theorem dX10_street_73 : decode cX10_street 73 = .ok (.aload_n 0, 1) := by decide +kernel
theorem dX10_street_74 : decode cX10_street 74 = .ok (.getfield 19, 3) := by decide +kernel
theorem dX10_street_77 : decode cX10_street 77 = .ok (.aload_n 0, 1) := by decide +kernel
theorem dX10_street_78 : decode cX10_street 78 = .ok (.getfield 107, 3) := by decide +kernel
theorem dX10_street_81 : decode cX10_street 81 = .ok (.iload 4, 2) := by decide +kernel
theorem dX10_street_83 : decode cX10_street 83 = .ok (.bastore, 1) := by decide +kernel
theorem dX10_street_84 : decode cX10_street 84 = .ok (.aload_n 0, 1) := by decide +kernel
theorem dX10_street_85 : decode cX10_street 85 = .ok (.dup, 1) := by decide +kernel
theorem dX10_street_86 : decode cX10_street 86 = .ok (.getfield 107, 3) := by decide +kernel
theorem dX10_street_89 : decode cX10_street 89 = .ok (.iconst 1, 1) := by decide +kernel
theorem dX10_street_90 : decode cX10_street 90 = .ok (.iadd, 1) := by decide +kernel
theorem dX10_street_91 : decode cX10_street 91 = .ok (.putfield 107, 3) := by decide +kernel
theorem dX10_street_94 : decode cX10_street 94 = .ok (.aload_n 0, 1) := by decide +kernel
theorem dX10_street_95 : decode cX10_street 95 = .ok (.getfield 107, 3) := by decide +kernel
theorem dX10_street_98 : decode cX10_street 98 = .ok (.iconst 1, 1) := by decide +kernel
theorem dX10_street_99 : decode cX10_street 99 = .ok (.isub, 1) := by decide +kernel
theorem dX10_street_100 : decode cX10_street 100 = .ok (.ireturn, 1) := by decide +kernel
theorem dX10_hour_0 : decode cX10_hour 0 = .ok (.iload_n 1, 1) := by decide +kernel
theorem dX10_hour_1 : decode cX10_hour 1 = .ok (.ifCond .lt 10, 3) := by decide +kernel
theorem dX10_hour_4 : decode cX10_hour 4 = .ok (.iload_n 1, 1) := by decide +kernel
theorem dX10_hour_5 : decode cX10_hour 5 = .ok (.sipush 1440, 3) := by decide +kernel
theorem dX10_hour_8 : decode cX10_hour 8 = .ok (.if_icmp .lt 5, 3) := by decide +kernel
theorem dX10_hour_11 : decode cX10_hour 11 = .ok (.iconst 0, 1) := by decide +kernel
theorem dX10_hour_12 : decode cX10_hour 12 = .ok (.ireturn, 1) := by decide +kernel
theorem dX10_hour_13 : decode cX10_hour 13 = .ok (.aload_n 0, 1) := by decide +kernel
theorem dX10_hour_14 : decode cX10_hour 14 = .ok (.iload_n 1, 1) := by decide +kernel
theorem dX10_hour_15 : decode cX10_hour 15 = .ok (.putfield 23, 3) := by decide +kernel
theorem dX10_hour_18 : decode cX10_hour 18 = .ok (.iconst 1, 1) := by decide +kernel
theorem dX10_hour_19 : decode cX10_hour 19 = .ok (.ireturn, 1) := by decide +kernel
theorem dX10_corners_0 : decode cX10_corners 0 = .ok (.iload_n 1, 1) := by decide +kernel
theorem dX10_corners_1 : decode cX10_corners 1 = .ok (.ifCond .lt 19, 3) := by decide +kernel
theorem dX10_corners_4 : decode cX10_corners 4 = .ok (.iload_n 1, 1) := by decide +kernel
theorem dX10_corners_5 : decode cX10_corners 5 = .ok (.bipush 9, 2) := by decide +kernel
theorem dX10_corners_7 : decode cX10_corners 7 = .ok (.if_icmp .gt 13, 3) := by decide +kernel
theorem dX10_corners_10 : decode cX10_corners 10 = .ok (.iload_n 2, 1) := by decide +kernel
theorem dX10_corners_11 : decode cX10_corners 11 = .ok (.ifCond .lt 9, 3) := by decide +kernel
theorem dX10_corners_14 : decode cX10_corners 14 = .ok (.iload_n 2, 1) := by decide +kernel
theorem dX10_corners_15 : decode cX10_corners 15 = .ok (.bipush 9, 2) := by decide +kernel
theorem dX10_corners_17 : decode cX10_corners 17 = .ok (.if_icmp .le 5, 3) := by decide +kernel
theorem dX10_corners_20 : decode cX10_corners 20 = .ok (.iconst 0, 1) := by decide +kernel
theorem dX10_corners_21 : decode cX10_corners 21 = .ok (.ireturn, 1) := by decide +kernel
theorem dX10_corners_22 : decode cX10_corners 22 = .ok (.aload_n 0, 1) := by decide +kernel
theorem dX10_corners_23 : decode cX10_corners 23 = .ok (.iload_n 1, 1) := by decide +kernel
theorem dX10_corners_24 : decode cX10_corners 24 = .ok (.putfield 114, 3) := by decide +kernel
theorem dX10_corners_27 : decode cX10_corners 27 = .ok (.aload_n 0, 1) := by decide +kernel
theorem dX10_corners_28 : decode cX10_corners 28 = .ok (.iload_n 2, 1) := by decide +kernel
theorem dX10_corners_29 : decode cX10_corners 29 = .ok (.putfield 27, 3) := by decide +kernel
theorem dX10_corners_32 : decode cX10_corners 32 = .ok (.iconst 1, 1) := by decide +kernel
theorem dX10_corners_33 : decode cX10_corners 33 = .ok (.ireturn, 1) := by decide +kernel
theorem dX10_within_0 : decode cX10_within 0 = .ok (.iload_n 0, 1) := by decide +kernel
theorem dX10_within_1 : decode cX10_within 1 = .ok (.sipush 1440, 3) := by decide +kernel
theorem dX10_within_4 : decode cX10_within 4 = .ok (.if_icmp .ge 7, 3) := by decide +kernel
theorem dX10_within_7 : decode cX10_within 7 = .ok (.iload_n 0, 1) := by decide +kernel
theorem dX10_within_8 : decode cX10_within 8 = .ok (.goto 6, 3) := by decide +kernel
theorem dX10_within_11 : decode cX10_within 11 = .ok (.sipush 1439, 3) := by decide +kernel
theorem dX10_within_14 : decode cX10_within 14 = .ok (.ireturn, 1) := by decide +kernel
theorem dX10_isLeft_0 : decode cX10_isLeft 0 = .ok (.iload_n 1, 1) := by decide +kernel
theorem dX10_isLeft_1 : decode cX10_isLeft 1 = .ok (.invokestatic 117, 3) := by decide +kernel
theorem dX10_isLeft_4 : decode cX10_isLeft 4 = .ok (.aload_n 0, 1) := by decide +kernel
theorem dX10_isLeft_5 : decode cX10_isLeft 5 = .ok (.getfield 23, 3) := by decide +kernel
theorem dX10_isLeft_8 : decode cX10_isLeft 8 = .ok (.if_icmp .ge 7, 3) := by decide +kernel
theorem dX10_isLeft_11 : decode cX10_isLeft 11 = .ok (.iconst 1, 1) := by decide +kernel
theorem dX10_isLeft_12 : decode cX10_isLeft 12 = .ok (.goto 4, 3) := by decide +kernel
theorem dX10_isLeft_15 : decode cX10_isLeft 15 = .ok (.iconst 0, 1) := by decide +kernel
theorem dX10_isLeft_16 : decode cX10_isLeft 16 = .ok (.ireturn, 1) := by decide +kernel
theorem dX10_lies_0 : decode cX10_lies 0 = .ok (.aload_n 0, 1) := by decide +kernel
theorem dX10_lies_1 : decode cX10_lies 1 = .ok (.getfield 7, 3) := by decide +kernel
theorem dX10_lies_4 : decode cX10_lies 4 = .ok (.iload_n 1, 1) := by decide +kernel
theorem dX10_lies_5 : decode cX10_lies 5 = .ok (.iaload, 1) := by decide +kernel
theorem dX10_lies_6 : decode cX10_lies 6 = .ok (.iload_n 2, 1) := by decide +kernel
theorem dX10_lies_7 : decode cX10_lies 7 = .ok (.if_icmp .eq 13, 3) := by decide +kernel
theorem dX10_lies_10 : decode cX10_lies 10 = .ok (.aload_n 0, 1) := by decide +kernel
theorem dX10_lies_11 : decode cX10_lies 11 = .ok (.getfield 13, 3) := by decide +kernel
theorem dX10_lies_14 : decode cX10_lies 14 = .ok (.iload_n 1, 1) := by decide +kernel
theorem dX10_lies_15 : decode cX10_lies 15 = .ok (.iaload, 1) := by decide +kernel
theorem dX10_lies_16 : decode cX10_lies 16 = .ok (.iload_n 2, 1) := by decide +kernel
theorem dX10_lies_17 : decode cX10_lies 17 = .ok (.if_icmp .ne 7, 3) := by decide +kernel
theorem dX10_lies_20 : decode cX10_lies 20 = .ok (.iconst 1, 1) := by decide +kernel
theorem dX10_lies_21 : decode cX10_lies 21 = .ok (.goto 4, 3) := by decide +kernel
theorem dX10_lies_24 : decode cX10_lies 24 = .ok (.iconst 0, 1) := by decide +kernel
theorem dX10_lies_25 : decode cX10_lies 25 = .ok (.ireturn, 1) := by decide +kernel
theorem dX10_rank_0 : decode cX10_rank 0 = .ok (.iconst 0, 1) := by decide +kernel
theorem dX10_rank_1 : decode cX10_rank 1 = .ok (.istore_n 3, 1) := by decide +kernel
theorem dX10_rank_2 : decode cX10_rank 2 = .ok (.iconst 0, 1) := by decide +kernel
theorem dX10_rank_3 : decode cX10_rank 3 = .ok (.istore 4, 2) := by decide +kernel
theorem dX10_rank_5 : decode cX10_rank 5 = .ok (.iload 4, 2) := by decide +kernel
theorem dX10_rank_7 : decode cX10_rank 7 = .ok (.iload_n 2, 1) := by decide +kernel
theorem dX10_rank_8 : decode cX10_rank 8 = .ok (.if_icmp .ge 27, 3) := by decide +kernel
theorem dX10_rank_11 : decode cX10_rank 11 = .ok (.iload_n 3, 1) := by decide +kernel
theorem dX10_rank_12 : decode cX10_rank 12 = .ok (.aload_n 0, 1) := by decide +kernel
theorem dX10_rank_13 : decode cX10_rank 13 = .ok (.iload 4, 2) := by decide +kernel
theorem dX10_rank_15 : decode cX10_rank 15 = .ok (.iload_n 1, 1) := by decide +kernel
theorem dX10_rank_16 : decode cX10_rank 16 = .ok (.invokevirtual 121, 3) := by decide +kernel
theorem dX10_rank_19 : decode cX10_rank 19 = .ok (.ifCond .eq 7, 3) := by decide +kernel
theorem dX10_rank_22 : decode cX10_rank 22 = .ok (.iconst 1, 1) := by decide +kernel
theorem dX10_rank_23 : decode cX10_rank 23 = .ok (.goto 4, 3) := by decide +kernel
theorem dX10_rank_26 : decode cX10_rank 26 = .ok (.iconst 0, 1) := by decide +kernel
theorem dX10_rank_27 : decode cX10_rank 27 = .ok (.iadd, 1) := by decide +kernel
theorem dX10_rank_28 : decode cX10_rank 28 = .ok (.istore_n 3, 1) := by decide +kernel
theorem dX10_rank_29 : decode cX10_rank 29 = .ok (.iinc 4 1, 3) := by decide +kernel
theorem dX10_rank_32 : decode cX10_rank 32 = .ok (.goto (-27), 3) := by decide +kernel
theorem dX10_rank_35 : decode cX10_rank 35 = .ok (.iload_n 3, 1) := by decide +kernel
theorem dX10_rank_36 : decode cX10_rank 36 = .ok (.ireturn, 1) := by decide +kernel
theorem dX10_turnTakes_0 : decode cX10_turnTakes 0 = .ok (.aload_n 0, 1) := by decide +kernel
theorem dX10_turnTakes_1 : decode cX10_turnTakes 1 = .ok (.iload_n 1, 1) := by decide +kernel
theorem dX10_turnTakes_2 : decode cX10_turnTakes 2 = .ok (.aload_n 0, 1) := by decide +kernel
theorem dX10_turnTakes_3 : decode cX10_turnTakes 3 = .ok (.getfield 107, 3) := by decide +kernel
theorem dX10_turnTakes_6 : decode cX10_turnTakes 6 = .ok (.invokevirtual 125, 3) := by decide +kernel
theorem dX10_turnTakes_9 : decode cX10_turnTakes 9 = .ok (.istore 5, 2) := by decide +kernel
theorem dX10_turnTakes_11 : decode cX10_turnTakes 11 = .ok (.aload_n 0, 1) := by decide +kernel
theorem dX10_turnTakes_12 : decode cX10_turnTakes 12 = .ok (.iload_n 1, 1) := by decide +kernel
theorem dX10_turnTakes_13 : decode cX10_turnTakes 13 = .ok (.iload_n 3, 1) := by decide +kernel
theorem dX10_turnTakes_14 : decode cX10_turnTakes 14 = .ok (.invokevirtual 125, 3) := by decide +kernel
theorem dX10_turnTakes_17 : decode cX10_turnTakes 17 = .ok (.aload_n 0, 1) := by decide +kernel
theorem dX10_turnTakes_18 : decode cX10_turnTakes 18 = .ok (.iload_n 1, 1) := by decide +kernel
theorem dX10_turnTakes_19 : decode cX10_turnTakes 19 = .ok (.iload_n 2, 1) := by decide +kernel
theorem dX10_turnTakes_20 : decode cX10_turnTakes 20 = .ok (.invokevirtual 125, 3) := by decide +kernel
theorem dX10_turnTakes_23 : decode cX10_turnTakes 23 = .ok (.isub, 1) := by decide +kernel
theorem dX10_turnTakes_24 : decode cX10_turnTakes 24 = .ok (.iload 5, 2) := by decide +kernel
theorem dX10_turnTakes_26 : decode cX10_turnTakes 26 = .ok (.iadd, 1) := by decide +kernel
theorem dX10_turnTakes_27 : decode cX10_turnTakes 27 = .ok (.iload 5, 2) := by decide +kernel
theorem dX10_turnTakes_29 : decode cX10_turnTakes 29 = .ok (.irem, 1) := by decide +kernel
theorem dX10_turnTakes_30 : decode cX10_turnTakes 30 = .ok (.istore 6, 2) := by decide +kernel
theorem dX10_turnTakes_32 : decode cX10_turnTakes 32 = .ok (.iload 6, 2) := by decide +kernel
theorem dX10_turnTakes_34 : decode cX10_turnTakes 34 = .ok (.aload_n 0, 1) := by decide +kernel
theorem dX10_turnTakes_35 : decode cX10_turnTakes 35 = .ok (.iload 4, 2) := by decide +kernel
theorem dX10_turnTakes_37 : decode cX10_turnTakes 37 = .ok (.invokevirtual 129, 3) := by decide +kernel
theorem dX10_turnTakes_40 : decode cX10_turnTakes 40 = .ok (.ifCond .eq 7, 3) := by decide +kernel
theorem dX10_turnTakes_43 : decode cX10_turnTakes 43 = .ok (.iconst 1, 1) := by decide +kernel
theorem dX10_turnTakes_44 : decode cX10_turnTakes 44 = .ok (.goto 7, 3) := by decide +kernel
theorem dX10_turnTakes_47 : decode cX10_turnTakes 47 = .ok (.iload 5, 2) := by decide +kernel
theorem dX10_turnTakes_49 : decode cX10_turnTakes 49 = .ok (.iconst 1, 1) := by decide +kernel
theorem dX10_turnTakes_50 : decode cX10_turnTakes 50 = .ok (.isub, 1) := by decide +kernel
theorem dX10_turnTakes_51 : decode cX10_turnTakes 51 = .ok (.if_icmp .ne 10, 3) := by decide +kernel
theorem dX10_turnTakes_54 : decode cX10_turnTakes 54 = .ok (.aload_n 0, 1) := by decide +kernel
theorem dX10_turnTakes_55 : decode cX10_turnTakes 55 = .ok (.getfield 114, 3) := by decide +kernel
theorem dX10_turnTakes_58 : decode cX10_turnTakes 58 = .ok (.goto 7, 3) := by decide +kernel
theorem dX10_turnTakes_61 : decode cX10_turnTakes 61 = .ok (.aload_n 0, 1) := by decide +kernel
theorem dX10_turnTakes_62 : decode cX10_turnTakes 62 = .ok (.getfield 27, 3) := by decide +kernel
theorem dX10_turnTakes_65 : decode cX10_turnTakes 65 = .ok (.ireturn, 1) := by decide +kernel
theorem dX10_turn_0 : decode cX10_turn 0 = .ok (.aload_n 0, 1) := by decide +kernel
theorem dX10_turn_1 : decode cX10_turn 1 = .ok (.iload_n 1, 1) := by decide +kernel
theorem dX10_turn_2 : decode cX10_turn 2 = .ok (.invokevirtual 110, 3) := by decide +kernel
theorem dX10_turn_5 : decode cX10_turn 5 = .ok (.ifCond .eq 47, 3) := by decide +kernel
theorem dX10_turn_8 : decode cX10_turn 8 = .ok (.aload_n 0, 1) := by decide +kernel
theorem dX10_turn_9 : decode cX10_turn 9 = .ok (.iload_n 2, 1) := by decide +kernel
theorem dX10_turn_10 : decode cX10_turn 10 = .ok (.invokevirtual 132, 3) := by decide +kernel
theorem dX10_turn_13 : decode cX10_turn 13 = .ok (.ifCond .eq 39, 3) := by decide +kernel
theorem dX10_turn_16 : decode cX10_turn 16 = .ok (.aload_n 0, 1) := by decide +kernel
theorem dX10_turn_17 : decode cX10_turn 17 = .ok (.iload_n 3, 1) := by decide +kernel
theorem dX10_turn_18 : decode cX10_turn 18 = .ok (.invokevirtual 132, 3) := by decide +kernel
theorem dX10_turn_21 : decode cX10_turn 21 = .ok (.ifCond .eq 31, 3) := by decide +kernel
theorem dX10_turn_24 : decode cX10_turn 24 = .ok (.iload_n 2, 1) := by decide +kernel
theorem dX10_turn_25 : decode cX10_turn 25 = .ok (.iload_n 3, 1) := by decide +kernel
theorem dX10_turn_26 : decode cX10_turn 26 = .ok (.if_icmp .eq 26, 3) := by decide +kernel
theorem dX10_turn_29 : decode cX10_turn 29 = .ok (.iload 4, 2) := by decide +kernel
theorem dX10_turn_31 : decode cX10_turn 31 = .ok (.ifCond .lt 21, 3) := by decide +kernel
theorem dX10_turn_34 : decode cX10_turn 34 = .ok (.aload_n 0, 1) := by decide +kernel
theorem dX10_turn_35 : decode cX10_turn 35 = .ok (.iload_n 2, 1) := by decide +kernel
theorem dX10_turn_36 : decode cX10_turn 36 = .ok (.iload_n 1, 1) := by decide +kernel
theorem dX10_turn_37 : decode cX10_turn 37 = .ok (.invokevirtual 121, 3) := by decide +kernel
theorem dX10_turn_40 : decode cX10_turn 40 = .ok (.ifCond .eq 12, 3) := by decide +kernel
theorem dX10_turn_43 : decode cX10_turn 43 = .ok (.aload_n 0, 1) := by decide +kernel
theorem dX10_turn_44 : decode cX10_turn 44 = .ok (.iload_n 3, 1) := by decide +kernel
theorem dX10_turn_45 : decode cX10_turn 45 = .ok (.iload_n 1, 1) := by decide +kernel
theorem dX10_turn_46 : decode cX10_turn 46 = .ok (.invokevirtual 121, 3) := by decide +kernel
theorem dX10_turn_49 : decode cX10_turn 49 = .ok (.ifCond .ne 5, 3) := by decide +kernel
theorem dX10_turn_52 : decode cX10_turn 52 = .ok (.iconst (-1), 1) := by decide +kernel
theorem dX10_turn_53 : decode cX10_turn 53 = .ok (.ireturn, 1) := by decide +kernel
theorem dX10_turn_54 : decode cX10_turn 54 = .ok (.aload_n 0, 1) := by decide +kernel
theorem dX10_turn_55 : decode cX10_turn 55 = .ok (.iload_n 1, 1) := by decide +kernel
theorem dX10_turn_56 : decode cX10_turn 56 = .ok (.iload_n 2, 1) := by decide +kernel
theorem dX10_turn_57 : decode cX10_turn 57 = .ok (.iload_n 3, 1) := by decide +kernel
theorem dX10_turn_58 : decode cX10_turn 58 = .ok (.iload 4, 2) := by decide +kernel
theorem dX10_turn_60 : decode cX10_turn 60 = .ok (.invokevirtual 135, 3) := by decide +kernel
theorem dX10_turn_63 : decode cX10_turn 63 = .ok (.ireturn, 1) := by decide +kernel
theorem dX10_byteAt_0 : decode cX10_byteAt 0 = .ok (.iload_n 1, 1) := by decide +kernel
theorem dX10_byteAt_1 : decode cX10_byteAt 1 = .ok (.aload_n 0, 1) := by decide +kernel
theorem dX10_byteAt_2 : decode cX10_byteAt 2 = .ok (.getfield 139, 3) := by decide +kernel
theorem dX10_byteAt_5 : decode cX10_byteAt 5 = .ok (.if_icmp .ge 16, 3) := by decide +kernel
theorem dX10_byteAt_8 : decode cX10_byteAt 8 = .ok (.aload_n 0, 1) := by decide +kernel
theorem dX10_byteAt_9 : decode cX10_byteAt 9 = .ok (.getfield 34, 3) := by decide +kernel
theorem dX10_byteAt_12 : decode cX10_byteAt 12 = .ok (.iload_n 1, 1) := by decide +kernel
theorem dX10_byteAt_13 : decode cX10_byteAt 13 = .ok (.baload, 1) := by decide +kernel
theorem dX10_byteAt_14 : decode cX10_byteAt 14 = .ok (.sipush 255, 3) := by decide +kernel
theorem dX10_byteAt_17 : decode cX10_byteAt 17 = .ok (.iand, 1) := by decide +kernel
theorem dX10_byteAt_18 : decode cX10_byteAt 18 = .ok (.goto 4, 3) := by decide +kernel
theorem dX10_byteAt_21 : decode cX10_byteAt 21 = .ok (.iconst 0, 1) := by decide +kernel
theorem dX10_byteAt_22 : decode cX10_byteAt 22 = .ok (.ireturn, 1) := by decide +kernel
theorem dX10_isLetter_0 : decode cX10_isLetter 0 = .ok (.iload_n 0, 1) := by decide +kernel
theorem dX10_isLetter_1 : decode cX10_isLetter 1 = .ok (.bipush 97, 2) := by decide +kernel
theorem dX10_isLetter_3 : decode cX10_isLetter 3 = .ok (.if_icmp .lt 13, 3) := by decide +kernel
theorem dX10_isLetter_6 : decode cX10_isLetter 6 = .ok (.iload_n 0, 1) := by decide +kernel
theorem dX10_isLetter_7 : decode cX10_isLetter 7 = .ok (.bipush 122, 2) := by decide +kernel
theorem dX10_isLetter_9 : decode cX10_isLetter 9 = .ok (.if_icmp .gt 7, 3) := by decide +kernel
theorem dX10_isLetter_12 : decode cX10_isLetter 12 = .ok (.iconst 1, 1) := by decide +kernel
theorem dX10_isLetter_13 : decode cX10_isLetter 13 = .ok (.goto 4, 3) := by decide +kernel
theorem dX10_isLetter_16 : decode cX10_isLetter 16 = .ok (.iconst 0, 1) := by decide +kernel
theorem dX10_isLetter_17 : decode cX10_isLetter 17 = .ok (.ireturn, 1) := by decide +kernel
theorem dX10_isDigit_0 : decode cX10_isDigit 0 = .ok (.iload_n 0, 1) := by decide +kernel
theorem dX10_isDigit_1 : decode cX10_isDigit 1 = .ok (.bipush 48, 2) := by decide +kernel
theorem dX10_isDigit_3 : decode cX10_isDigit 3 = .ok (.if_icmp .lt 13, 3) := by decide +kernel
theorem dX10_isDigit_6 : decode cX10_isDigit 6 = .ok (.iload_n 0, 1) := by decide +kernel
theorem dX10_isDigit_7 : decode cX10_isDigit 7 = .ok (.bipush 57, 2) := by decide +kernel
theorem dX10_isDigit_9 : decode cX10_isDigit 9 = .ok (.if_icmp .gt 7, 3) := by decide +kernel
theorem dX10_isDigit_12 : decode cX10_isDigit 12 = .ok (.iconst 1, 1) := by decide +kernel
theorem dX10_isDigit_13 : decode cX10_isDigit 13 = .ok (.goto 4, 3) := by decide +kernel
theorem dX10_isDigit_16 : decode cX10_isDigit 16 = .ok (.iconst 0, 1) := by decide +kernel
theorem dX10_isDigit_17 : decode cX10_isDigit 17 = .ok (.ireturn, 1) := by decide +kernel
theorem dX10_fails_0 : decode cX10_fails 0 = .ok (.aload_n 0, 1) := by decide +kernel
theorem dX10_fails_1 : decode cX10_fails 1 = .ok (.getfield 142, 3) := by decide +kernel
theorem dX10_fails_4 : decode cX10_fails 4 = .ok (.ifCond .le 4, 3) := by decide +kernel
theorem dX10_fails_7 : decode cX10_fails 7 = .ok (.return_, 1) := by decide +kernel
theorem dX10_fails_8 : decode cX10_fails 8 = .ok (.aload_n 0, 1) := by decide +kernel
theorem dX10_fails_9 : decode cX10_fails 9 = .ok (.iload_n 1, 1) := by decide +kernel
theorem dX10_fails_10 : decode cX10_fails 10 = .ok (.putfield 142, 3) := by decide +kernel
theorem dX10_fails_13 : decode cX10_fails 13 = .ok (.aload_n 0, 1) := by decide +kernel
theorem dX10_fails_14 : decode cX10_fails 14 = .ok (.iload_n 2, 1) := by decide +kernel
theorem dX10_fails_15 : decode cX10_fails 15 = .ok (.putfield 37, 3) := by decide +kernel
theorem dX10_fails_18 : decode cX10_fails 18 = .ok (.return_, 1) := by decide +kernel
theorem dX10_isGood_0 : decode cX10_isGood 0 = .ok (.aload_n 0, 1) := by decide +kernel
theorem dX10_isGood_1 : decode cX10_isGood 1 = .ok (.getfield 142, 3) := by decide +kernel
theorem dX10_isGood_4 : decode cX10_isGood 4 = .ok (.ifCond .ne 7, 3) := by decide +kernel
theorem dX10_isGood_7 : decode cX10_isGood 7 = .ok (.iconst 1, 1) := by decide +kernel
theorem dX10_isGood_8 : decode cX10_isGood 8 = .ok (.goto 4, 3) := by decide +kernel
theorem dX10_isGood_11 : decode cX10_isGood 11 = .ok (.iconst 0, 1) := by decide +kernel
theorem dX10_isGood_12 : decode cX10_isGood 12 = .ok (.ireturn, 1) := by decide +kernel
theorem dX10_streetAt_0 : decode cX10_streetAt 0 = .ok (.iconst 0, 1) := by decide +kernel
theorem dX10_streetAt_1 : decode cX10_streetAt 1 = .ok (.istore_n 2, 1) := by decide +kernel
theorem dX10_streetAt_2 : decode cX10_streetAt 2 = .ok (.iconst 0, 1) := by decide +kernel
theorem dX10_streetAt_3 : decode cX10_streetAt 3 = .ok (.istore_n 3, 1) := by decide +kernel
theorem dX10_streetAt_4 : decode cX10_streetAt 4 = .ok (.iload_n 2, 1) := by decide +kernel
theorem dX10_streetAt_5 : decode cX10_streetAt 5 = .ok (.iconst 3, 1) := by decide +kernel
theorem dX10_streetAt_6 : decode cX10_streetAt 6 = .ok (.if_icmp .ge 38, 3) := by decide +kernel
theorem dX10_streetAt_9 : decode cX10_streetAt 9 = .ok (.aload_n 0, 1) := by decide +kernel
theorem dX10_streetAt_10 : decode cX10_streetAt 10 = .ok (.iload_n 1, 1) := by decide +kernel
theorem dX10_streetAt_11 : decode cX10_streetAt 11 = .ok (.iload_n 2, 1) := by decide +kernel
theorem dX10_streetAt_12 : decode cX10_streetAt 12 = .ok (.iadd, 1) := by decide +kernel
theorem dX10_streetAt_13 : decode cX10_streetAt 13 = .ok (.invokevirtual 145, 3) := by decide +kernel
theorem dX10_streetAt_16 : decode cX10_streetAt 16 = .ok (.invokestatic 148, 3) := by decide +kernel
theorem dX10_streetAt_19 : decode cX10_streetAt 19 = .ok (.ifCond .eq 25, 3) := by decide +kernel
theorem dX10_streetAt_22 : decode cX10_streetAt 22 = .ok (.bipush 10, 2) := by decide +kernel
theorem dX10_streetAt_24 : decode cX10_streetAt 24 = .ok (.iload_n 3, 1) := by decide +kernel
theorem dX10_streetAt_25 : decode cX10_streetAt 25 = .ok (.imul, 1) := by decide +kernel
theorem dX10_streetAt_26 : decode cX10_streetAt 26 = .ok (.aload_n 0, 1) := by decide +kernel
theorem dX10_streetAt_27 : decode cX10_streetAt 27 = .ok (.iload_n 1, 1) := by decide +kernel
theorem dX10_streetAt_28 : decode cX10_streetAt 28 = .ok (.iload_n 2, 1) := by decide +kernel
theorem dX10_streetAt_29 : decode cX10_streetAt 29 = .ok (.iadd, 1) := by decide +kernel
theorem dX10_streetAt_30 : decode cX10_streetAt 30 = .ok (.invokevirtual 145, 3) := by decide +kernel
theorem dX10_streetAt_33 : decode cX10_streetAt 33 = .ok (.iadd, 1) := by decide +kernel
theorem dX10_streetAt_34 : decode cX10_streetAt 34 = .ok (.bipush 48, 2) := by decide +kernel
theorem dX10_streetAt_36 : decode cX10_streetAt 36 = .ok (.isub, 1) := by decide +kernel
theorem dX10_streetAt_37 : decode cX10_streetAt 37 = .ok (.istore_n 3, 1) := by decide +kernel
theorem dX10_streetAt_38 : decode cX10_streetAt 38 = .ok (.iinc 2 1, 3) := by decide +kernel
theorem dX10_streetAt_41 : decode cX10_streetAt 41 = .ok (.goto (-37), 3) := by decide +kernel
theorem dX10_streetAt_44 : decode cX10_streetAt 44 = .ok (.iload_n 2, 1) := by decide +kernel
theorem dX10_streetAt_45 : decode cX10_streetAt 45 = .ok (.iconst 1, 1) := by decide +kernel
theorem dX10_streetAt_46 : decode cX10_streetAt 46 = .ok (.if_icmp .lt 27, 3) := by decide +kernel
theorem dX10_streetAt_49 : decode cX10_streetAt 49 = .ok (.iload_n 2, 1) := by decide +kernel
theorem dX10_streetAt_50 : decode cX10_streetAt 50 = .ok (.iconst 2, 1) := by decide +kernel
theorem dX10_streetAt_51 : decode cX10_streetAt 51 = .ok (.if_icmp .gt 22, 3) := by decide +kernel
theorem dX10_streetAt_54 : decode cX10_streetAt 54 = .ok (.iload_n 3, 1) := by decide +kernel
theorem dX10_streetAt_55 : decode cX10_streetAt 55 = .ok (.bipush 16, 2) := by decide +kernel
theorem dX10_streetAt_57 : decode cX10_streetAt 57 = .ok (.if_icmp .ge 16, 3) := by decide +kernel
theorem dX10_streetAt_60 : decode cX10_streetAt 60 = .ok (.aload_n 0, 1) := by decide +kernel
theorem dX10_streetAt_61 : decode cX10_streetAt 61 = .ok (.iload_n 1, 1) := by decide +kernel
theorem dX10_streetAt_62 : decode cX10_streetAt 62 = .ok (.iload_n 2, 1) := by decide +kernel
theorem dX10_streetAt_63 : decode cX10_streetAt 63 = .ok (.iadd, 1) := by decide +kernel
theorem dX10_streetAt_64 : decode cX10_streetAt 64 = .ok (.invokevirtual 145, 3) := by decide +kernel
theorem dX10_streetAt_67 : decode cX10_streetAt 67 = .ok (.invokestatic 151, 3) := by decide +kernel
theorem dX10_streetAt_70 : decode cX10_streetAt 70 = .ok (.ifCond .eq 7, 3) := by decide +kernel
theorem dX10_streetAt_73 : decode cX10_streetAt 73 = .ok (.iconst 0, 1) := by decide +kernel
theorem dX10_streetAt_74 : decode cX10_streetAt 74 = .ok (.goto 4, 3) := by decide +kernel
theorem dX10_streetAt_77 : decode cX10_streetAt 77 = .ok (.iload_n 2, 1) := by decide +kernel
theorem dX10_streetAt_78 : decode cX10_streetAt 78 = .ok (.ireturn, 1) := by decide +kernel
theorem dX10_next_0 : decode cX10_next 0 = .ok (.aload_n 0, 1) := by decide +kernel
theorem dX10_next_1 : decode cX10_next 1 = .ok (.aload_n 0, 1) := by decide +kernel
theorem dX10_next_2 : decode cX10_next 2 = .ok (.getfield 154, 3) := by decide +kernel
theorem dX10_next_5 : decode cX10_next 5 = .ok (.putfield 157, 3) := by decide +kernel
theorem dX10_next_8 : decode cX10_next 8 = .ok (.aload_n 0, 1) := by decide +kernel
theorem dX10_next_9 : decode cX10_next 9 = .ok (.getfield 157, 3) := by decide +kernel
theorem dX10_next_12 : decode cX10_next 12 = .ok (.aload_n 0, 1) := by decide +kernel
theorem dX10_next_13 : decode cX10_next 13 = .ok (.getfield 139, 3) := by decide +kernel
theorem dX10_next_16 : decode cX10_next 16 = .ok (.if_icmp .ge 42, 3) := by decide +kernel
theorem dX10_next_19 : decode cX10_next 19 = .ok (.aload_n 0, 1) := by decide +kernel
theorem dX10_next_20 : decode cX10_next 20 = .ok (.aload_n 0, 1) := by decide +kernel
theorem dX10_next_21 : decode cX10_next 21 = .ok (.getfield 157, 3) := by decide +kernel
theorem dX10_next_24 : decode cX10_next 24 = .ok (.invokevirtual 145, 3) := by decide +kernel
theorem dX10_next_27 : decode cX10_next 27 = .ok (.bipush 32, 2) := by decide +kernel
theorem dX10_next_29 : decode cX10_next 29 = .ok (.if_icmp .eq 16, 3) := by decide +kernel
theorem dX10_next_32 : decode cX10_next 32 = .ok (.aload_n 0, 1) := by decide +kernel
theorem dX10_next_33 : decode cX10_next 33 = .ok (.aload_n 0, 1) := by decide +kernel
theorem dX10_next_34 : decode cX10_next 34 = .ok (.getfield 157, 3) := by decide +kernel
theorem dX10_next_37 : decode cX10_next 37 = .ok (.invokevirtual 145, 3) := by decide +kernel
theorem dX10_next_40 : decode cX10_next 40 = .ok (.bipush 10, 2) := by decide +kernel
theorem dX10_next_42 : decode cX10_next 42 = .ok (.if_icmp .ne 16, 3) := by decide +kernel
theorem dX10_next_45 : decode cX10_next 45 = .ok (.aload_n 0, 1) := by decide +kernel
theorem dX10_next_46 : decode cX10_next 46 = .ok (.dup, 1) := by decide +kernel
theorem dX10_next_47 : decode cX10_next 47 = .ok (.getfield 157, 3) := by decide +kernel
theorem dX10_next_50 : decode cX10_next 50 = .ok (.iconst 1, 1) := by decide +kernel
theorem dX10_next_51 : decode cX10_next 51 = .ok (.iadd, 1) := by decide +kernel
theorem dX10_next_52 : decode cX10_next 52 = .ok (.putfield 157, 3) := by decide +kernel
theorem dX10_next_55 : decode cX10_next 55 = .ok (.goto (-47), 3) := by decide +kernel
theorem dX10_next_58 : decode cX10_next 58 = .ok (.aload_n 0, 1) := by decide +kernel
theorem dX10_next_59 : decode cX10_next 59 = .ok (.aload_n 0, 1) := by decide +kernel
theorem dX10_next_60 : decode cX10_next 60 = .ok (.getfield 157, 3) := by decide +kernel
theorem dX10_next_63 : decode cX10_next 63 = .ok (.invokevirtual 145, 3) := by decide +kernel
theorem dX10_next_66 : decode cX10_next 66 = .ok (.istore_n 1, 1) := by decide +kernel
theorem dX10_next_67 : decode cX10_next 67 = .ok (.aload_n 0, 1) := by decide +kernel
theorem dX10_next_68 : decode cX10_next 68 = .ok (.aload_n 0, 1) := by decide +kernel
theorem dX10_next_69 : decode cX10_next 69 = .ok (.getfield 157, 3) := by decide +kernel
theorem dX10_next_72 : decode cX10_next 72 = .ok (.iconst 1, 1) := by decide +kernel
theorem dX10_next_73 : decode cX10_next 73 = .ok (.iadd, 1) := by decide +kernel
theorem dX10_next_74 : decode cX10_next 74 = .ok (.putfield 154, 3) := by decide +kernel
theorem dX10_next_77 : decode cX10_next 77 = .ok (.aload_n 0, 1) := by decide +kernel
theorem dX10_next_78 : decode cX10_next 78 = .ok (.getfield 157, 3) := by decide +kernel
theorem dX10_next_81 : decode cX10_next 81 = .ok (.aload_n 0, 1) := by decide +kernel
theorem dX10_next_82 : decode cX10_next 82 = .ok (.getfield 139, 3) := by decide +kernel
theorem dX10_next_85 : decode cX10_next 85 = .ok (.if_icmp .lt 27, 3) := by decide +kernel
theorem dX10_next_88 : decode cX10_next 88 = .ok (.aload_n 0, 1) := by decide +kernel
theorem dX10_next_89 : decode cX10_next 89 = .ok (.iconst 0, 1) := by decide +kernel
theorem dX10_next_90 : decode cX10_next 90 = .ok (.putfield 160, 3) := by decide +kernel
theorem dX10_next_93 : decode cX10_next 93 = .ok (.aload_n 0, 1) := by decide +kernel
theorem dX10_next_94 : decode cX10_next 94 = .ok (.aload_n 0, 1) := by decide +kernel
theorem dX10_next_95 : decode cX10_next 95 = .ok (.getfield 139, 3) := by decide +kernel
theorem dX10_next_98 : decode cX10_next 98 = .ok (.putfield 157, 3) := by decide +kernel
theorem dX10_next_101 : decode cX10_next 101 = .ok (.aload_n 0, 1) := by decide +kernel
theorem dX10_next_102 : decode cX10_next 102 = .ok (.aload_n 0, 1) := by decide +kernel
theorem dX10_next_103 : decode cX10_next 103 = .ok (.getfield 139, 3) := by decide +kernel
theorem dX10_next_106 : decode cX10_next 106 = .ok (.putfield 154, 3) := by decide +kernel
theorem dX10_next_109 : decode cX10_next 109 = .ok (.goto 350, 3) := by decide +kernel
theorem dX10_next_112 : decode cX10_next 112 = .ok (.iload_n 1, 1) := by decide +kernel
theorem dX10_next_113 : decode cX10_next 113 = .ok (.bipush 115, 2) := by decide +kernel
theorem dX10_next_115 : decode cX10_next 115 = .ok (.if_icmp .ne 94, 3) := by decide +kernel
theorem dX10_next_118 : decode cX10_next 118 = .ok (.aload_n 0, 1) := by decide +kernel
theorem dX10_next_119 : decode cX10_next 119 = .ok (.aload_n 0, 1) := by decide +kernel
theorem dX10_next_120 : decode cX10_next 120 = .ok (.getfield 157, 3) := by decide +kernel
theorem dX10_next_123 : decode cX10_next 123 = .ok (.iconst 1, 1) := by decide +kernel
theorem dX10_next_124 : decode cX10_next 124 = .ok (.iadd, 1) := by decide +kernel
theorem dX10_next_125 : decode cX10_next 125 = .ok (.invokevirtual 163, 3) := by decide +kernel
theorem dX10_next_128 : decode cX10_next 128 = .ok (.ifCond .le 81, 3) := by decide +kernel
theorem dX10_next_131 : decode cX10_next 131 = .ok (.aload_n 0, 1) := by decide +kernel
theorem dX10_next_132 : decode cX10_next 132 = .ok (.aload_n 0, 1) := by decide +kernel
theorem dX10_next_133 : decode cX10_next 133 = .ok (.getfield 157, 3) := by decide +kernel
theorem dX10_next_136 : decode cX10_next 136 = .ok (.iconst 1, 1) := by decide +kernel
theorem dX10_next_137 : decode cX10_next 137 = .ok (.iadd, 1) := by decide +kernel
theorem dX10_next_138 : decode cX10_next 138 = .ok (.invokevirtual 163, 3) := by decide +kernel
theorem dX10_next_141 : decode cX10_next 141 = .ok (.istore_n 2, 1) := by decide +kernel
theorem dX10_next_142 : decode cX10_next 142 = .ok (.aload_n 0, 1) := by decide +kernel
theorem dX10_next_143 : decode cX10_next 143 = .ok (.aload_n 0, 1) := by decide +kernel
theorem dX10_next_144 : decode cX10_next 144 = .ok (.aload_n 0, 1) := by decide +kernel
theorem dX10_next_145 : decode cX10_next 145 = .ok (.getfield 157, 3) := by decide +kernel
theorem dX10_next_148 : decode cX10_next 148 = .ok (.iconst 1, 1) := by decide +kernel
theorem dX10_next_149 : decode cX10_next 149 = .ok (.iadd, 1) := by decide +kernel
theorem dX10_next_150 : decode cX10_next 150 = .ok (.invokevirtual 145, 3) := by decide +kernel
theorem dX10_next_153 : decode cX10_next 153 = .ok (.bipush 48, 2) := by decide +kernel
theorem dX10_next_155 : decode cX10_next 155 = .ok (.isub, 1) := by decide +kernel
theorem dX10_next_156 : decode cX10_next 156 = .ok (.putfield 166, 3) := by decide +kernel
theorem dX10_next_159 : decode cX10_next 159 = .ok (.iload_n 2, 1) := by decide +kernel
theorem dX10_next_160 : decode cX10_next 160 = .ok (.iconst 2, 1) := by decide +kernel
theorem dX10_next_161 : decode cX10_next 161 = .ok (.if_icmp .ne 28, 3) := by decide +kernel
theorem dX10_next_164 : decode cX10_next 164 = .ok (.aload_n 0, 1) := by decide +kernel
theorem dX10_next_165 : decode cX10_next 165 = .ok (.bipush 10, 2) := by decide +kernel
theorem dX10_next_167 : decode cX10_next 167 = .ok (.aload_n 0, 1) := by decide +kernel
theorem dX10_next_168 : decode cX10_next 168 = .ok (.getfield 166, 3) := by decide +kernel
theorem dX10_next_171 : decode cX10_next 171 = .ok (.imul, 1) := by decide +kernel
theorem dX10_next_172 : decode cX10_next 172 = .ok (.aload_n 0, 1) := by decide +kernel
theorem dX10_next_173 : decode cX10_next 173 = .ok (.aload_n 0, 1) := by decide +kernel
theorem dX10_next_174 : decode cX10_next 174 = .ok (.getfield 157, 3) := by decide +kernel
theorem dX10_next_177 : decode cX10_next 177 = .ok (.iconst 2, 1) := by decide +kernel
theorem dX10_next_178 : decode cX10_next 178 = .ok (.iadd, 1) := by decide +kernel
theorem dX10_next_179 : decode cX10_next 179 = .ok (.invokevirtual 145, 3) := by decide +kernel
theorem dX10_next_182 : decode cX10_next 182 = .ok (.iadd, 1) := by decide +kernel
theorem dX10_next_183 : decode cX10_next 183 = .ok (.bipush 48, 2) := by decide +kernel
theorem dX10_next_185 : decode cX10_next 185 = .ok (.isub, 1) := by decide +kernel
theorem dX10_next_186 : decode cX10_next 186 = .ok (.putfield 166, 3) := by decide +kernel
theorem dX10_next_189 : decode cX10_next 189 = .ok (.aload_n 0, 1) := by decide +kernel
theorem dX10_next_190 : decode cX10_next 190 = .ok (.aload_n 0, 1) := by decide +kernel
theorem dX10_next_191 : decode cX10_next 191 = .ok (.getfield 157, 3) := by decide +kernel
theorem dX10_next_194 : decode cX10_next 194 = .ok (.iconst 1, 1) := by decide +kernel
theorem dX10_next_195 : decode cX10_next 195 = .ok (.iadd, 1) := by decide +kernel
theorem dX10_next_196 : decode cX10_next 196 = .ok (.iload_n 2, 1) := by decide +kernel
theorem dX10_next_197 : decode cX10_next 197 = .ok (.iadd, 1) := by decide +kernel
theorem dX10_next_198 : decode cX10_next 198 = .ok (.putfield 154, 3) := by decide +kernel
theorem dX10_next_201 : decode cX10_next 201 = .ok (.aload_n 0, 1) := by decide +kernel
theorem dX10_next_202 : decode cX10_next 202 = .ok (.iconst 4, 1) := by decide +kernel
theorem dX10_next_203 : decode cX10_next 203 = .ok (.putfield 160, 3) := by decide +kernel
theorem dX10_next_206 : decode cX10_next 206 = .ok (.goto 253, 3) := by decide +kernel
theorem dX10_next_209 : decode cX10_next 209 = .ok (.iload_n 1, 1) := by decide +kernel
theorem dX10_next_210 : decode cX10_next 210 = .ok (.invokestatic 151, 3) := by decide +kernel
theorem dX10_next_213 : decode cX10_next 213 = .ok (.ifCond .eq 109, 3) := by decide +kernel
theorem dX10_next_216 : decode cX10_next 216 = .ok (.aload_n 0, 1) := by decide +kernel
theorem dX10_next_217 : decode cX10_next 217 = .ok (.aload_n 0, 1) := by decide +kernel
theorem dX10_next_218 : decode cX10_next 218 = .ok (.getfield 154, 3) := by decide +kernel
theorem dX10_next_221 : decode cX10_next 221 = .ok (.invokevirtual 145, 3) := by decide +kernel
theorem dX10_next_224 : decode cX10_next 224 = .ok (.invokestatic 151, 3) := by decide +kernel
theorem dX10_next_227 : decode cX10_next 227 = .ok (.ifCond .eq 16, 3) := by decide +kernel
theorem dX10_next_230 : decode cX10_next 230 = .ok (.aload_n 0, 1) := by decide +kernel
theorem dX10_next_231 : decode cX10_next 231 = .ok (.dup, 1) := by decide +kernel
theorem dX10_next_232 : decode cX10_next 232 = .ok (.getfield 154, 3) := by decide +kernel
theorem dX10_next_235 : decode cX10_next 235 = .ok (.iconst 1, 1) := by decide +kernel
theorem dX10_next_236 : decode cX10_next 236 = .ok (.iadd, 1) := by decide +kernel
theorem dX10_next_237 : decode cX10_next 237 = .ok (.putfield 154, 3) := by decide +kernel
theorem dX10_next_240 : decode cX10_next 240 = .ok (.goto (-24), 3) := by decide +kernel
theorem dX10_next_243 : decode cX10_next 243 = .ok (.aload_n 0, 1) := by decide +kernel
theorem dX10_next_244 : decode cX10_next 244 = .ok (.lconst 0, 1) := by decide +kernel
theorem dX10_next_245 : decode cX10_next 245 = .ok (.putfield 169, 3) := by decide +kernel
theorem dX10_next_248 : decode cX10_next 248 = .ok (.aload_n 0, 1) := by decide +kernel
theorem dX10_next_249 : decode cX10_next 249 = .ok (.getfield 157, 3) := by decide +kernel
theorem dX10_next_252 : decode cX10_next 252 = .ok (.istore_n 2, 1) := by decide +kernel
theorem dX10_next_253 : decode cX10_next 253 = .ok (.iload_n 2, 1) := by decide +kernel
theorem dX10_next_254 : decode cX10_next 254 = .ok (.aload_n 0, 1) := by decide +kernel
theorem dX10_next_255 : decode cX10_next 255 = .ok (.getfield 154, 3) := by decide +kernel
theorem dX10_next_258 : decode cX10_next 258 = .ok (.if_icmp .ge 38, 3) := by decide +kernel
theorem dX10_next_261 : decode cX10_next 261 = .ok (.iload_n 2, 1) := by decide +kernel
theorem dX10_next_262 : decode cX10_next 262 = .ok (.aload_n 0, 1) := by decide +kernel
theorem dX10_next_263 : decode cX10_next 263 = .ok (.getfield 157, 3) := by decide +kernel
theorem dX10_next_266 : decode cX10_next 266 = .ok (.bipush 8, 2) := by decide +kernel
theorem dX10_next_268 : decode cX10_next 268 = .ok (.iadd, 1) := by decide +kernel
theorem dX10_next_269 : decode cX10_next 269 = .ok (.if_icmp .ge 27, 3) := by decide +kernel
theorem dX10_next_272 : decode cX10_next 272 = .ok (.aload_n 0, 1) := by decide +kernel
theorem dX10_next_273 : decode cX10_next 273 = .ok (.aload_n 0, 1) := by decide +kernel
theorem dX10_next_274 : decode cX10_next 274 = .ok (.getfield 169, 3) := by decide +kernel
theorem dX10_next_277 : decode cX10_next 277 = .ok (.bipush 8, 2) := by decide +kernel
theorem dX10_next_279 : decode cX10_next 279 = .ok (.lshl, 1) := by decide +kernel
theorem dX10_next_280 : decode cX10_next 280 = .ok (.aload_n 0, 1) := by decide +kernel
theorem dX10_next_281 : decode cX10_next 281 = .ok (.iload_n 2, 1) := by decide +kernel
theorem dX10_next_282 : decode cX10_next 282 = .ok (.invokevirtual 145, 3) := by decide +kernel
theorem dX10_next_285 : decode cX10_next 285 = .ok (.i2l, 1) := by decide +kernel
theorem dX10_next_286 : decode cX10_next 286 = .ok (.lor, 1) := by decide +kernel
theorem dX10_next_287 : decode cX10_next 287 = .ok (.putfield 169, 3) := by decide +kernel
theorem dX10_next_290 : decode cX10_next 290 = .ok (.iinc 2 1, 3) := by decide +kernel
theorem dX10_next_293 : decode cX10_next 293 = .ok (.goto (-40), 3) := by decide +kernel
theorem dX10_next_296 : decode cX10_next 296 = .ok (.aload_n 0, 1) := by decide +kernel
theorem dX10_next_297 : decode cX10_next 297 = .ok (.aload_n 0, 1) := by decide +kernel
theorem dX10_next_298 : decode cX10_next 298 = .ok (.getfield 154, 3) := by decide +kernel
theorem dX10_next_301 : decode cX10_next 301 = .ok (.aload_n 0, 1) := by decide +kernel
theorem dX10_next_302 : decode cX10_next 302 = .ok (.getfield 157, 3) := by decide +kernel
theorem dX10_next_305 : decode cX10_next 305 = .ok (.isub, 1) := by decide +kernel
theorem dX10_next_306 : decode cX10_next 306 = .ok (.bipush 8, 2) := by decide +kernel
theorem dX10_next_308 : decode cX10_next 308 = .ok (.if_icmp .le 7, 3) := by decide +kernel
theorem dX10_next_311 : decode cX10_next 311 = .ok (.iconst 1, 1) := by decide +kernel
theorem dX10_next_312 : decode cX10_next 312 = .ok (.goto 4, 3) := by decide +kernel
theorem dX10_next_315 : decode cX10_next 315 = .ok (.iconst 2, 1) := by decide +kernel
theorem dX10_next_316 : decode cX10_next 316 = .ok (.putfield 160, 3) := by decide +kernel
theorem dX10_next_319 : decode cX10_next 319 = .ok (.goto 140, 3) := by decide +kernel
theorem dX10_next_322 : decode cX10_next 322 = .ok (.iload_n 1, 1) := by decide +kernel
theorem dX10_next_323 : decode cX10_next 323 = .ok (.invokestatic 148, 3) := by decide +kernel
theorem dX10_next_326 : decode cX10_next 326 = .ok (.ifCond .eq 118, 3) := by decide +kernel
theorem dX10_next_329 : decode cX10_next 329 = .ok (.aload_n 0, 1) := by decide +kernel
theorem dX10_next_330 : decode cX10_next 330 = .ok (.iconst 0, 1) := by decide +kernel
theorem dX10_next_331 : decode cX10_next 331 = .ok (.putfield 166, 3) := by decide +kernel
theorem dX10_next_334 : decode cX10_next 334 = .ok (.aload_n 0, 1) := by decide +kernel
theorem dX10_next_335 : decode cX10_next 335 = .ok (.aload_n 0, 1) := by decide +kernel
theorem dX10_next_336 : decode cX10_next 336 = .ok (.getfield 157, 3) := by decide +kernel
theorem dX10_next_339 : decode cX10_next 339 = .ok (.putfield 154, 3) := by decide +kernel
theorem dX10_next_342 : decode cX10_next 342 = .ok (.aload_n 0, 1) := by decide +kernel
theorem dX10_next_343 : decode cX10_next 343 = .ok (.aload_n 0, 1) := by decide +kernel
theorem dX10_next_344 : decode cX10_next 344 = .ok (.getfield 154, 3) := by decide +kernel
theorem dX10_next_347 : decode cX10_next 347 = .ok (.invokevirtual 145, 3) := by decide +kernel
theorem dX10_next_350 : decode cX10_next 350 = .ok (.invokestatic 148, 3) := by decide +kernel
theorem dX10_next_353 : decode cX10_next 353 = .ok (.ifCond .eq 52, 3) := by decide +kernel
theorem dX10_next_356 : decode cX10_next 356 = .ok (.aload_n 0, 1) := by decide +kernel
theorem dX10_next_357 : decode cX10_next 357 = .ok (.getfield 154, 3) := by decide +kernel
theorem dX10_next_360 : decode cX10_next 360 = .ok (.aload_n 0, 1) := by decide +kernel
theorem dX10_next_361 : decode cX10_next 361 = .ok (.getfield 157, 3) := by decide +kernel
theorem dX10_next_364 : decode cX10_next 364 = .ok (.isub, 1) := by decide +kernel
theorem dX10_next_365 : decode cX10_next 365 = .ok (.iconst 4, 1) := by decide +kernel
theorem dX10_next_366 : decode cX10_next 366 = .ok (.if_icmp .ge 26, 3) := by decide +kernel
theorem dX10_next_369 : decode cX10_next 369 = .ok (.aload_n 0, 1) := by decide +kernel
theorem dX10_next_370 : decode cX10_next 370 = .ok (.bipush 10, 2) := by decide +kernel
theorem dX10_next_372 : decode cX10_next 372 = .ok (.aload_n 0, 1) := by decide +kernel
theorem dX10_next_373 : decode cX10_next 373 = .ok (.getfield 166, 3) := by decide +kernel
theorem dX10_next_376 : decode cX10_next 376 = .ok (.imul, 1) := by decide +kernel
theorem dX10_next_377 : decode cX10_next 377 = .ok (.aload_n 0, 1) := by decide +kernel
theorem dX10_next_378 : decode cX10_next 378 = .ok (.aload_n 0, 1) := by decide +kernel
theorem dX10_next_379 : decode cX10_next 379 = .ok (.getfield 154, 3) := by decide +kernel
theorem dX10_next_382 : decode cX10_next 382 = .ok (.invokevirtual 145, 3) := by decide +kernel
theorem dX10_next_385 : decode cX10_next 385 = .ok (.iadd, 1) := by decide +kernel
theorem dX10_next_386 : decode cX10_next 386 = .ok (.bipush 48, 2) := by decide +kernel
theorem dX10_next_388 : decode cX10_next 388 = .ok (.isub, 1) := by decide +kernel
theorem dX10_next_389 : decode cX10_next 389 = .ok (.putfield 166, 3) := by decide +kernel
theorem dX10_next_392 : decode cX10_next 392 = .ok (.aload_n 0, 1) := by decide +kernel
theorem dX10_next_393 : decode cX10_next 393 = .ok (.dup, 1) := by decide +kernel
theorem dX10_next_394 : decode cX10_next 394 = .ok (.getfield 154, 3) := by decide +kernel
theorem dX10_next_397 : decode cX10_next 397 = .ok (.iconst 1, 1) := by decide +kernel
theorem dX10_next_398 : decode cX10_next 398 = .ok (.iadd, 1) := by decide +kernel
theorem dX10_next_399 : decode cX10_next 399 = .ok (.putfield 154, 3) := by decide +kernel
theorem dX10_next_402 : decode cX10_next 402 = .ok (.goto (-60), 3) := by decide +kernel
theorem dX10_next_405 : decode cX10_next 405 = .ok (.aload_n 0, 1) := by decide +kernel
theorem dX10_next_406 : decode cX10_next 406 = .ok (.aload_n 0, 1) := by decide +kernel
theorem dX10_next_407 : decode cX10_next 407 = .ok (.getfield 154, 3) := by decide +kernel
theorem dX10_next_410 : decode cX10_next 410 = .ok (.aload_n 0, 1) := by decide +kernel
theorem dX10_next_411 : decode cX10_next 411 = .ok (.getfield 157, 3) := by decide +kernel
theorem dX10_next_414 : decode cX10_next 414 = .ok (.isub, 1) := by decide +kernel
theorem dX10_next_415 : decode cX10_next 415 = .ok (.iconst 4, 1) := by decide +kernel
theorem dX10_next_416 : decode cX10_next 416 = .ok (.if_icmp .gt 17, 3) := by decide +kernel
theorem dX10_next_419 : decode cX10_next 419 = .ok (.aload_n 0, 1) := by decide +kernel
theorem dX10_next_420 : decode cX10_next 420 = .ok (.aload_n 0, 1) := by decide +kernel
theorem dX10_next_421 : decode cX10_next 421 = .ok (.getfield 154, 3) := by decide +kernel
theorem dX10_next_424 : decode cX10_next 424 = .ok (.invokevirtual 145, 3) := by decide +kernel
theorem dX10_next_427 : decode cX10_next 427 = .ok (.invokestatic 151, 3) := by decide +kernel
theorem dX10_next_430 : decode cX10_next 430 = .ok (.ifCond .eq 7, 3) := by decide +kernel
theorem dX10_next_433 : decode cX10_next 433 = .ok (.iconst 1, 1) := by decide +kernel
theorem dX10_next_434 : decode cX10_next 434 = .ok (.goto 4, 3) := by decide +kernel
theorem dX10_next_437 : decode cX10_next 437 = .ok (.iconst 3, 1) := by decide +kernel
theorem dX10_next_438 : decode cX10_next 438 = .ok (.putfield 160, 3) := by decide +kernel
theorem dX10_next_441 : decode cX10_next 441 = .ok (.goto 18, 3) := by decide +kernel
theorem dX10_next_444 : decode cX10_next 444 = .ok (.aload_n 0, 1) := by decide +kernel
theorem dX10_next_445 : decode cX10_next 445 = .ok (.iload_n 1, 1) := by decide +kernel
theorem dX10_next_446 : decode cX10_next 446 = .ok (.bipush 59, 2) := by decide +kernel
theorem dX10_next_448 : decode cX10_next 448 = .ok (.if_icmp .ne 7, 3) := by decide +kernel
theorem dX10_next_451 : decode cX10_next 451 = .ok (.iconst 5, 1) := by decide +kernel
theorem dX10_next_452 : decode cX10_next 452 = .ok (.goto 4, 3) := by decide +kernel
theorem dX10_next_455 : decode cX10_next 455 = .ok (.iconst 1, 1) := by decide +kernel
theorem dX10_next_456 : decode cX10_next 456 = .ok (.putfield 160, 3) := by decide +kernel
theorem dX10_next_459 : decode cX10_next 459 = .ok (.return_, 1) := by decide +kernel
theorem dX10_isWord_0 : decode cX10_isWord 0 = .ok (.aload_n 0, 1) := by decide +kernel
theorem dX10_isWord_1 : decode cX10_isWord 1 = .ok (.getfield 160, 3) := by decide +kernel
theorem dX10_isWord_4 : decode cX10_isWord 4 = .ok (.iconst 2, 1) := by decide +kernel
theorem dX10_isWord_5 : decode cX10_isWord 5 = .ok (.if_icmp .ne 16, 3) := by decide +kernel
theorem dX10_isWord_8 : decode cX10_isWord 8 = .ok (.aload_n 0, 1) := by decide +kernel
theorem dX10_isWord_9 : decode cX10_isWord 9 = .ok (.getfield 169, 3) := by decide +kernel
theorem dX10_isWord_12 : decode cX10_isWord 12 = .ok (.lload_n 1, 1) := by decide +kernel
theorem dX10_isWord_13 : decode cX10_isWord 13 = .ok (.lcmp, 1) := by decide +kernel
theorem dX10_isWord_14 : decode cX10_isWord 14 = .ok (.ifCond .ne 7, 3) := by decide +kernel
theorem dX10_isWord_17 : decode cX10_isWord 17 = .ok (.iconst 1, 1) := by decide +kernel
theorem dX10_isWord_18 : decode cX10_isWord 18 = .ok (.goto 4, 3) := by decide +kernel
theorem dX10_isWord_21 : decode cX10_isWord 21 = .ok (.iconst 0, 1) := by decide +kernel
theorem dX10_isWord_22 : decode cX10_isWord 22 = .ok (.ireturn, 1) := by decide +kernel
theorem dX10_wrong_0 : decode cX10_wrong 0 = .ok (.aload_n 0, 1) := by decide +kernel
theorem dX10_wrong_1 : decode cX10_wrong 1 = .ok (.aload_n 0, 1) := by decide +kernel
theorem dX10_wrong_2 : decode cX10_wrong 2 = .ok (.getfield 160, 3) := by decide +kernel
theorem dX10_wrong_5 : decode cX10_wrong 5 = .ok (.iconst 1, 1) := by decide +kernel
theorem dX10_wrong_6 : decode cX10_wrong 6 = .ok (.if_icmp .ne 7, 3) := by decide +kernel
theorem dX10_wrong_9 : decode cX10_wrong 9 = .ok (.iconst 1, 1) := by decide +kernel
theorem dX10_wrong_10 : decode cX10_wrong 10 = .ok (.goto 4, 3) := by decide +kernel
theorem dX10_wrong_13 : decode cX10_wrong 13 = .ok (.iconst 2, 1) := by decide +kernel
theorem dX10_wrong_14 : decode cX10_wrong 14 = .ok (.aload_n 0, 1) := by decide +kernel
theorem dX10_wrong_15 : decode cX10_wrong 15 = .ok (.getfield 157, 3) := by decide +kernel
theorem dX10_wrong_18 : decode cX10_wrong 18 = .ok (.invokevirtual 173, 3) := by decide +kernel
theorem dX10_wrong_21 : decode cX10_wrong 21 = .ok (.return_, 1) := by decide +kernel
theorem dX10_must_0 : decode cX10_must 0 = .ok (.aload_n 0, 1) := by decide +kernel
theorem dX10_must_1 : decode cX10_must 1 = .ok (.invokevirtual 177, 3) := by decide +kernel
theorem dX10_must_4 : decode cX10_must 4 = .ok (.ifCond .ne 4, 3) := by decide +kernel
theorem dX10_must_7 : decode cX10_must 7 = .ok (.return_, 1) := by decide +kernel
theorem dX10_must_8 : decode cX10_must 8 = .ok (.iload_n 1, 1) := by decide +kernel
theorem dX10_must_9 : decode cX10_must 9 = .ok (.ifCond .eq 10, 3) := by decide +kernel
theorem dX10_must_12 : decode cX10_must 12 = .ok (.aload_n 0, 1) := by decide +kernel
theorem dX10_must_13 : decode cX10_must 13 = .ok (.invokevirtual 181, 3) := by decide +kernel
theorem dX10_must_16 : decode cX10_must 16 = .ok (.goto 7, 3) := by decide +kernel
theorem dX10_must_19 : decode cX10_must 19 = .ok (.aload_n 0, 1) := by decide +kernel
theorem dX10_must_20 : decode cX10_must 20 = .ok (.invokevirtual 184, 3) := by decide +kernel
theorem dX10_must_23 : decode cX10_must 23 = .ok (.return_, 1) := by decide +kernel
theorem dX10_kindHere_0 : decode cX10_kindHere 0 = .ok (.aload_n 0, 1) := by decide +kernel
theorem dX10_kindHere_1 : decode cX10_kindHere 1 = .ok (.ldc2_w 187, 3) := by decide +kernel
theorem dX10_kindHere_4 : decode cX10_kindHere 4 = .ok (.invokevirtual 189, 3) := by decide +kernel
theorem dX10_kindHere_7 : decode cX10_kindHere 7 = .ok (.ifCond .eq 7, 3) := by decide +kernel
theorem dX10_kindHere_10 : decode cX10_kindHere 10 = .ok (.iconst 0, 1) := by decide +kernel
theorem dX10_kindHere_11 : decode cX10_kindHere 11 = .ok (.goto 60, 3) := by decide +kernel
theorem dX10_kindHere_14 : decode cX10_kindHere 14 = .ok (.aload_n 0, 1) := by decide +kernel
theorem dX10_kindHere_15 : decode cX10_kindHere 15 = .ok (.ldc2_w 193, 3) := by decide +kernel
theorem dX10_kindHere_18 : decode cX10_kindHere 18 = .ok (.invokevirtual 189, 3) := by decide +kernel
theorem dX10_kindHere_21 : decode cX10_kindHere 21 = .ok (.ifCond .eq 7, 3) := by decide +kernel
theorem dX10_kindHere_24 : decode cX10_kindHere 24 = .ok (.iconst 1, 1) := by decide +kernel
theorem dX10_kindHere_25 : decode cX10_kindHere 25 = .ok (.goto 46, 3) := by decide +kernel
theorem dX10_kindHere_28 : decode cX10_kindHere 28 = .ok (.aload_n 0, 1) := by decide +kernel
theorem dX10_kindHere_29 : decode cX10_kindHere 29 = .ok (.ldc2_w 195, 3) := by decide +kernel
theorem dX10_kindHere_32 : decode cX10_kindHere 32 = .ok (.invokevirtual 189, 3) := by decide +kernel
theorem dX10_kindHere_35 : decode cX10_kindHere 35 = .ok (.ifCond .eq 7, 3) := by decide +kernel
theorem dX10_kindHere_38 : decode cX10_kindHere 38 = .ok (.iconst 2, 1) := by decide +kernel
theorem dX10_kindHere_39 : decode cX10_kindHere 39 = .ok (.goto 32, 3) := by decide +kernel
theorem dX10_kindHere_42 : decode cX10_kindHere 42 = .ok (.aload_n 0, 1) := by decide +kernel
theorem dX10_kindHere_43 : decode cX10_kindHere 43 = .ok (.ldc2_w 197, 3) := by decide +kernel
theorem dX10_kindHere_46 : decode cX10_kindHere 46 = .ok (.invokevirtual 189, 3) := by decide +kernel
theorem dX10_kindHere_49 : decode cX10_kindHere 49 = .ok (.ifCond .eq 7, 3) := by decide +kernel
theorem dX10_kindHere_52 : decode cX10_kindHere 52 = .ok (.iconst 3, 1) := by decide +kernel
theorem dX10_kindHere_53 : decode cX10_kindHere 53 = .ok (.goto 18, 3) := by decide +kernel
theorem dX10_kindHere_56 : decode cX10_kindHere 56 = .ok (.aload_n 0, 1) := by decide +kernel
theorem dX10_kindHere_57 : decode cX10_kindHere 57 = .ok (.ldc2_w 199, 3) := by decide +kernel
theorem dX10_kindHere_60 : decode cX10_kindHere 60 = .ok (.invokevirtual 189, 3) := by decide +kernel
theorem dX10_kindHere_63 : decode cX10_kindHere 63 = .ok (.ifCond .eq 7, 3) := by decide +kernel
theorem dX10_kindHere_66 : decode cX10_kindHere 66 = .ok (.iconst 4, 1) := by decide +kernel
theorem dX10_kindHere_67 : decode cX10_kindHere 67 = .ok (.goto 4, 3) := by decide +kernel
theorem dX10_kindHere_70 : decode cX10_kindHere 70 = .ok (.iconst (-1), 1) := by decide +kernel
theorem dX10_kindHere_71 : decode cX10_kindHere 71 = .ok (.ireturn, 1) := by decide +kernel
theorem dX10_acts_0 : decode cX10_acts 0 = .ok (.aload_n 0, 1) := by decide +kernel
theorem dX10_acts_1 : decode cX10_acts 1 = .ok (.iconst 0, 1) := by decide +kernel
theorem dX10_acts_2 : decode cX10_acts 2 = .ok (.putfield 142, 3) := by decide +kernel
theorem dX10_acts_5 : decode cX10_acts 5 = .ok (.aload_n 0, 1) := by decide +kernel
theorem dX10_acts_6 : decode cX10_acts 6 = .ok (.iconst (-1), 1) := by decide +kernel
theorem dX10_acts_7 : decode cX10_acts 7 = .ok (.putfield 37, 3) := by decide +kernel
theorem dX10_acts_10 : decode cX10_acts 10 = .ok (.aload_n 0, 1) := by decide +kernel
theorem dX10_acts_11 : decode cX10_acts 11 = .ok (.aload_n 0, 1) := by decide +kernel
theorem dX10_acts_12 : decode cX10_acts 12 = .ok (.getfield 201, 3) := by decide +kernel
theorem dX10_acts_15 : decode cX10_acts 15 = .ok (.putfield 139, 3) := by decide +kernel
theorem dX10_acts_18 : decode cX10_acts 18 = .ok (.iconst 0, 1) := by decide +kernel
theorem dX10_acts_19 : decode cX10_acts 19 = .ok (.istore_n 1, 1) := by decide +kernel
theorem dX10_acts_20 : decode cX10_acts 20 = .ok (.iload_n 1, 1) := by decide +kernel
theorem dX10_acts_21 : decode cX10_acts 21 = .ok (.aload_n 0, 1) := by decide +kernel
theorem dX10_acts_22 : decode cX10_acts 22 = .ok (.getfield 139, 3) := by decide +kernel
theorem dX10_acts_25 : decode cX10_acts 25 = .ok (.if_icmp .ge 21, 3) := by decide +kernel
theorem dX10_acts_28 : decode cX10_acts 28 = .ok (.aload_n 0, 1) := by decide +kernel
theorem dX10_acts_29 : decode cX10_acts 29 = .ok (.getfield 34, 3) := by decide +kernel
theorem dX10_acts_32 : decode cX10_acts 32 = .ok (.iload_n 1, 1) := by decide +kernel
theorem dX10_acts_33 : decode cX10_acts 33 = .ok (.aload_n 0, 1) := by decide +kernel
theorem dX10_acts_34 : decode cX10_acts 34 = .ok (.getfield 30, 3) := by decide +kernel
theorem dX10_acts_37 : decode cX10_acts 37 = .ok (.iload_n 1, 1) := by decide +kernel
theorem dX10_acts_38 : decode cX10_acts 38 = .ok (.baload, 1) := by decide +kernel
theorem dX10_acts_39 : decode cX10_acts 39 = .ok (.bastore, 1) := by decide +kernel
theorem dX10_acts_40 : decode cX10_acts 40 = .ok (.iinc 1 1, 3) := by decide +kernel
theorem dX10_acts_43 : decode cX10_acts 43 = .ok (.goto (-23), 3) := by decide +kernel
theorem dX10_acts_46 : decode cX10_acts 46 = .ok (.aload_n 0, 1) := by decide +kernel
theorem dX10_acts_47 : decode cX10_acts 47 = .ok (.iconst 0, 1) := by decide +kernel
theorem dX10_acts_48 : decode cX10_acts 48 = .ok (.putfield 201, 3) := by decide +kernel
theorem dX10_acts_51 : decode cX10_acts 51 = .ok (.aload_n 0, 1) := by decide +kernel
theorem dX10_acts_52 : decode cX10_acts 52 = .ok (.iconst 0, 1) := by decide +kernel
theorem dX10_acts_53 : decode cX10_acts 53 = .ok (.putfield 154, 3) := by decide +kernel
theorem dX10_acts_56 : decode cX10_acts 56 = .ok (.aload_n 0, 1) := by decide +kernel
theorem dX10_acts_57 : decode cX10_acts 57 = .ok (.iconst 1, 1) := by decide +kernel
theorem dX10_acts_58 : decode cX10_acts 58 = .ok (.aload_n 0, 1) := by decide +kernel
theorem dX10_acts_59 : decode cX10_acts 59 = .ok (.getfield 204, 3) := by decide +kernel
theorem dX10_acts_62 : decode cX10_acts 62 = .ok (.isub, 1) := by decide +kernel
theorem dX10_acts_63 : decode cX10_acts 63 = .ok (.putfield 207, 3) := by decide +kernel
theorem dX10_acts_66 : decode cX10_acts 66 = .ok (.aload_n 0, 1) := by decide +kernel
theorem dX10_acts_67 : decode cX10_acts 67 = .ok (.getfield 40, 3) := by decide +kernel
theorem dX10_acts_70 : decode cX10_acts 70 = .ok (.aload_n 0, 1) := by decide +kernel
theorem dX10_acts_71 : decode cX10_acts 71 = .ok (.getfield 207, 3) := by decide +kernel
theorem dX10_acts_74 : decode cX10_acts 74 = .ok (.iconst 0, 1) := by decide +kernel
theorem dX10_acts_75 : decode cX10_acts 75 = .ok (.iastore, 1) := by decide +kernel
theorem dX10_acts_76 : decode cX10_acts 76 = .ok (.aload_n 0, 1) := by decide +kernel
theorem dX10_acts_77 : decode cX10_acts 77 = .ok (.invokevirtual 181, 3) := by decide +kernel
theorem dX10_acts_80 : decode cX10_acts 80 = .ok (.aload_n 0, 1) := by decide +kernel
theorem dX10_acts_81 : decode cX10_acts 81 = .ok (.invokevirtual 177, 3) := by decide +kernel
theorem dX10_acts_84 : decode cX10_acts 84 = .ok (.ifCond .eq 17, 3) := by decide +kernel
theorem dX10_acts_87 : decode cX10_acts 87 = .ok (.aload_n 0, 1) := by decide +kernel
theorem dX10_acts_88 : decode cX10_acts 88 = .ok (.getfield 160, 3) := by decide +kernel
theorem dX10_acts_91 : decode cX10_acts 91 = .ok (.ifCond .eq 10, 3) := by decide +kernel
theorem dX10_acts_94 : decode cX10_acts 94 = .ok (.aload_n 0, 1) := by decide +kernel
theorem dX10_acts_95 : decode cX10_acts 95 = .ok (.invokevirtual 210, 3) := by decide +kernel
theorem dX10_acts_98 : decode cX10_acts 98 = .ok (.goto (-18), 3) := by decide +kernel
theorem dX10_acts_101 : decode cX10_acts 101 = .ok (.aload_n 0, 1) := by decide +kernel
theorem dX10_acts_102 : decode cX10_acts 102 = .ok (.invokevirtual 177, 3) := by decide +kernel
theorem dX10_acts_105 : decode cX10_acts 105 = .ok (.ifCond .ne 5, 3) := by decide +kernel
theorem dX10_acts_108 : decode cX10_acts 108 = .ok (.iconst (-1), 1) := by decide +kernel
theorem dX10_acts_109 : decode cX10_acts 109 = .ok (.ireturn, 1) := by decide +kernel
theorem dX10_acts_110 : decode cX10_acts 110 = .ok (.aload_n 0, 1) := by decide +kernel
theorem dX10_acts_111 : decode cX10_acts 111 = .ok (.aload_n 0, 1) := by decide +kernel
theorem dX10_acts_112 : decode cX10_acts 112 = .ok (.getfield 207, 3) := by decide +kernel
theorem dX10_acts_115 : decode cX10_acts 115 = .ok (.putfield 204, 3) := by decide +kernel
theorem dX10_acts_118 : decode cX10_acts 118 = .ok (.aload_n 0, 1) := by decide +kernel
theorem dX10_acts_119 : decode cX10_acts 119 = .ok (.getfield 40, 3) := by decide +kernel
theorem dX10_acts_122 : decode cX10_acts 122 = .ok (.aload_n 0, 1) := by decide +kernel
theorem dX10_acts_123 : decode cX10_acts 123 = .ok (.getfield 204, 3) := by decide +kernel
theorem dX10_acts_126 : decode cX10_acts 126 = .ok (.iaload, 1) := by decide +kernel
theorem dX10_acts_127 : decode cX10_acts 127 = .ok (.ireturn, 1) := by decide +kernel
theorem dX10_numeral_0 : decode cX10_numeral 0 = .ok (.aload_n 0, 1) := by decide +kernel
theorem dX10_numeral_1 : decode cX10_numeral 1 = .ok (.invokevirtual 177, 3) := by decide +kernel
theorem dX10_numeral_4 : decode cX10_numeral 4 = .ok (.ifCond .ne 5, 3) := by decide +kernel
theorem dX10_numeral_7 : decode cX10_numeral 7 = .ok (.iconst 0, 1) := by decide +kernel
theorem dX10_numeral_8 : decode cX10_numeral 8 = .ok (.ireturn, 1) := by decide +kernel
theorem dX10_numeral_9 : decode cX10_numeral 9 = .ok (.aload_n 0, 1) := by decide +kernel
theorem dX10_numeral_10 : decode cX10_numeral 10 = .ok (.getfield 160, 3) := by decide +kernel
theorem dX10_numeral_13 : decode cX10_numeral 13 = .ok (.iconst 3, 1) := by decide +kernel
theorem dX10_numeral_14 : decode cX10_numeral 14 = .ok (.if_icmp .eq 7, 3) := by decide +kernel
theorem dX10_numeral_17 : decode cX10_numeral 17 = .ok (.aload_n 0, 1) := by decide +kernel
theorem dX10_numeral_18 : decode cX10_numeral 18 = .ok (.invokevirtual 184, 3) := by decide +kernel
theorem dX10_numeral_21 : decode cX10_numeral 21 = .ok (.aload_n 0, 1) := by decide +kernel
theorem dX10_numeral_22 : decode cX10_numeral 22 = .ok (.invokevirtual 177, 3) := by decide +kernel
theorem dX10_numeral_25 : decode cX10_numeral 25 = .ok (.ifCond .eq 28, 3) := by decide +kernel
theorem dX10_numeral_28 : decode cX10_numeral 28 = .ok (.aload_n 0, 1) := by decide +kernel
theorem dX10_numeral_29 : decode cX10_numeral 29 = .ok (.getfield 166, 3) := by decide +kernel
theorem dX10_numeral_32 : decode cX10_numeral 32 = .ok (.iload_n 1, 1) := by decide +kernel
theorem dX10_numeral_33 : decode cX10_numeral 33 = .ok (.if_icmp .lt 11, 3) := by decide +kernel
theorem dX10_numeral_36 : decode cX10_numeral 36 = .ok (.aload_n 0, 1) := by decide +kernel
theorem dX10_numeral_37 : decode cX10_numeral 37 = .ok (.getfield 166, 3) := by decide +kernel
theorem dX10_numeral_40 : decode cX10_numeral 40 = .ok (.iload_n 2, 1) := by decide +kernel
theorem dX10_numeral_41 : decode cX10_numeral 41 = .ok (.if_icmp .le 12, 3) := by decide +kernel
theorem dX10_numeral_44 : decode cX10_numeral 44 = .ok (.aload_n 0, 1) := by decide +kernel
theorem dX10_numeral_45 : decode cX10_numeral 45 = .ok (.iconst 3, 1) := by decide +kernel
theorem dX10_numeral_46 : decode cX10_numeral 46 = .ok (.aload_n 0, 1) := by decide +kernel
theorem dX10_numeral_47 : decode cX10_numeral 47 = .ok (.getfield 157, 3) := by decide +kernel
theorem dX10_numeral_50 : decode cX10_numeral 50 = .ok (.invokevirtual 173, 3) := by decide +kernel
theorem dX10_numeral_53 : decode cX10_numeral 53 = .ok (.aload_n 0, 1) := by decide +kernel
theorem dX10_numeral_54 : decode cX10_numeral 54 = .ok (.getfield 166, 3) := by decide +kernel
theorem dX10_numeral_57 : decode cX10_numeral 57 = .ok (.istore_n 3, 1) := by decide +kernel
theorem dX10_numeral_58 : decode cX10_numeral 58 = .ok (.aload_n 0, 1) := by decide +kernel
theorem dX10_numeral_59 : decode cX10_numeral 59 = .ok (.invokevirtual 177, 3) := by decide +kernel
theorem dX10_numeral_62 : decode cX10_numeral 62 = .ok (.ifCond .eq 7, 3) := by decide +kernel
theorem dX10_numeral_65 : decode cX10_numeral 65 = .ok (.aload_n 0, 1) := by decide +kernel
theorem dX10_numeral_66 : decode cX10_numeral 66 = .ok (.invokevirtual 181, 3) := by decide +kernel
theorem dX10_numeral_69 : decode cX10_numeral 69 = .ok (.iload_n 3, 1) := by decide +kernel
theorem dX10_numeral_70 : decode cX10_numeral 70 = .ok (.ireturn, 1) := by decide +kernel
theorem dX10_readAct_0 : decode cX10_readAct 0 = .ok (.aload_n 0, 1) := by decide +kernel
theorem dX10_readAct_1 : decode cX10_readAct 1 = .ok (.ldc2_w 213, 3) := by decide +kernel
theorem dX10_readAct_4 : decode cX10_readAct 4 = .ok (.invokevirtual 189, 3) := by decide +kernel
theorem dX10_readAct_7 : decode cX10_readAct 7 = .ok (.ifCond .eq 7, 3) := by decide +kernel
theorem dX10_readAct_10 : decode cX10_readAct 10 = .ok (.iconst (-1), 1) := by decide +kernel
theorem dX10_readAct_11 : decode cX10_readAct 11 = .ok (.goto 19, 3) := by decide +kernel
theorem dX10_readAct_14 : decode cX10_readAct 14 = .ok (.aload_n 0, 1) := by decide +kernel
theorem dX10_readAct_15 : decode cX10_readAct 15 = .ok (.ldc2_w 215, 3) := by decide +kernel
theorem dX10_readAct_18 : decode cX10_readAct 18 = .ok (.invokevirtual 189, 3) := by decide +kernel
theorem dX10_readAct_21 : decode cX10_readAct 21 = .ok (.ifCond .eq 8, 3) := by decide +kernel
theorem dX10_readAct_24 : decode cX10_readAct 24 = .ok (.bipush (-2), 2) := by decide +kernel
theorem dX10_readAct_26 : decode cX10_readAct 26 = .ok (.goto 4, 3) := by decide +kernel
theorem dX10_readAct_29 : decode cX10_readAct 29 = .ok (.iconst 0, 1) := by decide +kernel
theorem dX10_readAct_30 : decode cX10_readAct 30 = .ok (.istore_n 1, 1) := by decide +kernel
theorem dX10_readAct_31 : decode cX10_readAct 31 = .ok (.iload_n 1, 1) := by decide +kernel
theorem dX10_readAct_32 : decode cX10_readAct 32 = .ok (.ifCond .ne 13, 3) := by decide +kernel
theorem dX10_readAct_35 : decode cX10_readAct 35 = .ok (.aload_n 0, 1) := by decide +kernel
theorem dX10_readAct_36 : decode cX10_readAct 36 = .ok (.ldc2_w 217, 3) := by decide +kernel
theorem dX10_readAct_39 : decode cX10_readAct 39 = .ok (.invokevirtual 189, 3) := by decide +kernel
theorem dX10_readAct_42 : decode cX10_readAct 42 = .ok (.ifCond .eq 17, 3) := by decide +kernel
theorem dX10_readAct_45 : decode cX10_readAct 45 = .ok (.aload_n 0, 1) := by decide +kernel
theorem dX10_readAct_46 : decode cX10_readAct 46 = .ok (.getfield 40, 3) := by decide +kernel
theorem dX10_readAct_49 : decode cX10_readAct 49 = .ok (.aload_n 0, 1) := by decide +kernel
theorem dX10_readAct_50 : decode cX10_readAct 50 = .ok (.getfield 207, 3) := by decide +kernel
theorem dX10_readAct_53 : decode cX10_readAct 53 = .ok (.iaload, 1) := by decide +kernel
theorem dX10_readAct_54 : decode cX10_readAct 54 = .ok (.bipush 20, 2) := by decide +kernel
theorem dX10_readAct_56 : decode cX10_readAct 56 = .ok (.if_icmp .ne 7, 3) := by decide +kernel
theorem dX10_readAct_59 : decode cX10_readAct 59 = .ok (.aload_n 0, 1) := by decide +kernel
theorem dX10_readAct_60 : decode cX10_readAct 60 = .ok (.invokevirtual 184, 3) := by decide +kernel
theorem dX10_readAct_63 : decode cX10_readAct 63 = .ok (.aload_n 0, 1) := by decide +kernel
theorem dX10_readAct_64 : decode cX10_readAct 64 = .ok (.invokevirtual 177, 3) := by decide +kernel
theorem dX10_readAct_67 : decode cX10_readAct 67 = .ok (.ifCond .ne 4, 3) := by decide +kernel
theorem dX10_readAct_70 : decode cX10_readAct 70 = .ok (.return_, 1) := by decide +kernel
theorem dX10_readAct_71 : decode cX10_readAct 71 = .ok (.bipush 20, 2) := by decide +kernel
theorem dX10_readAct_73 : decode cX10_readAct 73 = .ok (.aload_n 0, 1) := by decide +kernel
theorem dX10_readAct_74 : decode cX10_readAct 74 = .ok (.getfield 207, 3) := by decide +kernel
theorem dX10_readAct_77 : decode cX10_readAct 77 = .ok (.imul, 1) := by decide +kernel
theorem dX10_readAct_78 : decode cX10_readAct 78 = .ok (.aload_n 0, 1) := by decide +kernel
theorem dX10_readAct_79 : decode cX10_readAct 79 = .ok (.getfield 40, 3) := by decide +kernel
theorem dX10_readAct_82 : decode cX10_readAct 82 = .ok (.aload_n 0, 1) := by decide +kernel
theorem dX10_readAct_83 : decode cX10_readAct 83 = .ok (.getfield 207, 3) := by decide +kernel
theorem dX10_readAct_86 : decode cX10_readAct 86 = .ok (.iaload, 1) := by decide +kernel
theorem dX10_readAct_87 : decode cX10_readAct 87 = .ok (.iadd, 1) := by decide +kernel
theorem dX10_readAct_88 : decode cX10_readAct 88 = .ok (.istore_n 2, 1) := by decide +kernel
theorem dX10_readAct_89 : decode cX10_readAct 89 = .ok (.aload_n 0, 1) := by decide +kernel
theorem dX10_readAct_90 : decode cX10_readAct 90 = .ok (.invokevirtual 181, 3) := by decide +kernel
theorem dX10_readAct_93 : decode cX10_readAct 93 = .ok (.aload_n 0, 1) := by decide +kernel
theorem dX10_readAct_94 : decode cX10_readAct 94 = .ok (.getfield 43, 3) := by decide +kernel
theorem dX10_readAct_97 : decode cX10_readAct 97 = .ok (.iload_n 2, 1) := by decide +kernel
theorem dX10_readAct_98 : decode cX10_readAct 98 = .ok (.iload_n 1, 1) := by decide +kernel
theorem dX10_readAct_99 : decode cX10_readAct 99 = .ok (.ifCond .ne 13, 3) := by decide +kernel
theorem dX10_readAct_102 : decode cX10_readAct 102 = .ok (.aload_n 0, 1) := by decide +kernel
theorem dX10_readAct_103 : decode cX10_readAct 103 = .ok (.iconst 1, 1) := by decide +kernel
theorem dX10_readAct_104 : decode cX10_readAct 104 = .ok (.bipush 20, 2) := by decide +kernel
theorem dX10_readAct_106 : decode cX10_readAct 106 = .ok (.invokevirtual 219, 3) := by decide +kernel
theorem dX10_readAct_109 : decode cX10_readAct 109 = .ok (.goto 4, 3) := by decide +kernel
theorem dX10_readAct_112 : decode cX10_readAct 112 = .ok (.iload_n 1, 1) := by decide +kernel
theorem dX10_readAct_113 : decode cX10_readAct 113 = .ok (.iastore, 1) := by decide +kernel
theorem dX10_readAct_114 : decode cX10_readAct 114 = .ok (.aload_n 0, 1) := by decide +kernel
theorem dX10_readAct_115 : decode cX10_readAct 115 = .ok (.getfield 46, 3) := by decide +kernel
theorem dX10_readAct_118 : decode cX10_readAct 118 = .ok (.iload_n 2, 1) := by decide +kernel
theorem dX10_readAct_119 : decode cX10_readAct 119 = .ok (.aload_n 0, 1) := by decide +kernel
theorem dX10_readAct_120 : decode cX10_readAct 120 = .ok (.invokevirtual 222, 3) := by decide +kernel
theorem dX10_readAct_123 : decode cX10_readAct 123 = .ok (.iastore, 1) := by decide +kernel
theorem dX10_readAct_124 : decode cX10_readAct 124 = .ok (.aload_n 0, 1) := by decide +kernel
theorem dX10_readAct_125 : decode cX10_readAct 125 = .ok (.getfield 46, 3) := by decide +kernel
theorem dX10_readAct_128 : decode cX10_readAct 128 = .ok (.iload_n 2, 1) := by decide +kernel
theorem dX10_readAct_129 : decode cX10_readAct 129 = .ok (.iaload, 1) := by decide +kernel
theorem dX10_readAct_130 : decode cX10_readAct 130 = .ok (.ifCond .ge 7, 3) := by decide +kernel
theorem dX10_readAct_133 : decode cX10_readAct 133 = .ok (.iload_n 1, 1) := by decide +kernel
theorem dX10_readAct_134 : decode cX10_readAct 134 = .ok (.ifCond .ge 24, 3) := by decide +kernel
theorem dX10_readAct_137 : decode cX10_readAct 137 = .ok (.aload_n 0, 1) := by decide +kernel
theorem dX10_readAct_138 : decode cX10_readAct 138 = .ok (.aload_n 0, 1) := by decide +kernel
theorem dX10_readAct_139 : decode cX10_readAct 139 = .ok (.getfield 46, 3) := by decide +kernel
theorem dX10_readAct_142 : decode cX10_readAct 142 = .ok (.iload_n 2, 1) := by decide +kernel
theorem dX10_readAct_143 : decode cX10_readAct 143 = .ok (.iaload, 1) := by decide +kernel
theorem dX10_readAct_144 : decode cX10_readAct 144 = .ok (.ifCond .lt 7, 3) := by decide +kernel
theorem dX10_readAct_147 : decode cX10_readAct 147 = .ok (.iconst 1, 1) := by decide +kernel
theorem dX10_readAct_148 : decode cX10_readAct 148 = .ok (.goto 4, 3) := by decide +kernel
theorem dX10_readAct_151 : decode cX10_readAct 151 = .ok (.iconst 0, 1) := by decide +kernel
theorem dX10_readAct_152 : decode cX10_readAct 152 = .ok (.invokevirtual 226, 3) := by decide +kernel
theorem dX10_readAct_155 : decode cX10_readAct 155 = .ok (.goto 10, 3) := by decide +kernel
theorem dX10_readAct_158 : decode cX10_readAct 158 = .ok (.aload_n 0, 1) := by decide +kernel
theorem dX10_readAct_159 : decode cX10_readAct 159 = .ok (.getfield 46, 3) := by decide +kernel
theorem dX10_readAct_162 : decode cX10_readAct 162 = .ok (.iload_n 2, 1) := by decide +kernel
theorem dX10_readAct_163 : decode cX10_readAct 163 = .ok (.iconst 4, 1) := by decide +kernel
theorem dX10_readAct_164 : decode cX10_readAct 164 = .ok (.iastore, 1) := by decide +kernel
theorem dX10_readAct_165 : decode cX10_readAct 165 = .ok (.aload_n 0, 1) := by decide +kernel
theorem dX10_readAct_166 : decode cX10_readAct 166 = .ok (.getfield 49, 3) := by decide +kernel
theorem dX10_readAct_169 : decode cX10_readAct 169 = .ok (.iload_n 2, 1) := by decide +kernel
theorem dX10_readAct_170 : decode cX10_readAct 170 = .ok (.iconst (-1), 1) := by decide +kernel
theorem dX10_readAct_171 : decode cX10_readAct 171 = .ok (.iastore, 1) := by decide +kernel
theorem dX10_readAct_172 : decode cX10_readAct 172 = .ok (.aload_n 0, 1) := by decide +kernel
theorem dX10_readAct_173 : decode cX10_readAct 173 = .ok (.invokevirtual 177, 3) := by decide +kernel
theorem dX10_readAct_176 : decode cX10_readAct 176 = .ok (.ifCond .eq 44, 3) := by decide +kernel
theorem dX10_readAct_179 : decode cX10_readAct 179 = .ok (.aload_n 0, 1) := by decide +kernel
theorem dX10_readAct_180 : decode cX10_readAct 180 = .ok (.ldc2_w 230, 3) := by decide +kernel
theorem dX10_readAct_183 : decode cX10_readAct 183 = .ok (.invokevirtual 189, 3) := by decide +kernel
theorem dX10_readAct_186 : decode cX10_readAct 186 = .ok (.ifCond .eq 34, 3) := by decide +kernel
theorem dX10_readAct_189 : decode cX10_readAct 189 = .ok (.aload_n 0, 1) := by decide +kernel
theorem dX10_readAct_190 : decode cX10_readAct 190 = .ok (.invokevirtual 181, 3) := by decide +kernel
theorem dX10_readAct_193 : decode cX10_readAct 193 = .ok (.aload_n 0, 1) := by decide +kernel
theorem dX10_readAct_194 : decode cX10_readAct 194 = .ok (.getfield 49, 3) := by decide +kernel
theorem dX10_readAct_197 : decode cX10_readAct 197 = .ok (.iload_n 2, 1) := by decide +kernel
theorem dX10_readAct_198 : decode cX10_readAct 198 = .ok (.aload_n 0, 1) := by decide +kernel
theorem dX10_readAct_199 : decode cX10_readAct 199 = .ok (.getfield 166, 3) := by decide +kernel
theorem dX10_readAct_202 : decode cX10_readAct 202 = .ok (.iastore, 1) := by decide +kernel
theorem dX10_readAct_203 : decode cX10_readAct 203 = .ok (.aload_n 0, 1) := by decide +kernel
theorem dX10_readAct_204 : decode cX10_readAct 204 = .ok (.aload_n 0, 1) := by decide +kernel
theorem dX10_readAct_205 : decode cX10_readAct 205 = .ok (.getfield 160, 3) := by decide +kernel
theorem dX10_readAct_208 : decode cX10_readAct 208 = .ok (.iconst 4, 1) := by decide +kernel
theorem dX10_readAct_209 : decode cX10_readAct 209 = .ok (.if_icmp .ne 7, 3) := by decide +kernel
theorem dX10_readAct_212 : decode cX10_readAct 212 = .ok (.iconst 1, 1) := by decide +kernel
theorem dX10_readAct_213 : decode cX10_readAct 213 = .ok (.goto 4, 3) := by decide +kernel
theorem dX10_readAct_216 : decode cX10_readAct 216 = .ok (.iconst 0, 1) := by decide +kernel
theorem dX10_readAct_217 : decode cX10_readAct 217 = .ok (.invokevirtual 226, 3) := by decide +kernel
theorem dX10_readAct_220 : decode cX10_readAct 220 = .ok (.aload_n 0, 1) := by decide +kernel
theorem dX10_readAct_221 : decode cX10_readAct 221 = .ok (.getfield 52, 3) := by decide +kernel
theorem dX10_readAct_224 : decode cX10_readAct 224 = .ok (.iload_n 2, 1) := by decide +kernel
theorem dX10_readAct_225 : decode cX10_readAct 225 = .ok (.iconst 0, 1) := by decide +kernel
theorem dX10_readAct_226 : decode cX10_readAct 226 = .ok (.iastore, 1) := by decide +kernel
theorem dX10_readAct_227 : decode cX10_readAct 227 = .ok (.aload_n 0, 1) := by decide +kernel
theorem dX10_readAct_228 : decode cX10_readAct 228 = .ok (.getfield 55, 3) := by decide +kernel
theorem dX10_readAct_231 : decode cX10_readAct 231 = .ok (.iload_n 2, 1) := by decide +kernel
theorem dX10_readAct_232 : decode cX10_readAct 232 = .ok (.sipush 1440, 3) := by decide +kernel
theorem dX10_readAct_235 : decode cX10_readAct 235 = .ok (.iastore, 1) := by decide +kernel
theorem dX10_readAct_236 : decode cX10_readAct 236 = .ok (.aload_n 0, 1) := by decide +kernel
theorem dX10_readAct_237 : decode cX10_readAct 237 = .ok (.invokevirtual 177, 3) := by decide +kernel
theorem dX10_readAct_240 : decode cX10_readAct 240 = .ok (.ifCond .eq 93, 3) := by decide +kernel
theorem dX10_readAct_243 : decode cX10_readAct 243 = .ok (.aload_n 0, 1) := by decide +kernel
theorem dX10_readAct_244 : decode cX10_readAct 244 = .ok (.ldc2_w 232, 3) := by decide +kernel
theorem dX10_readAct_247 : decode cX10_readAct 247 = .ok (.invokevirtual 189, 3) := by decide +kernel
theorem dX10_readAct_250 : decode cX10_readAct 250 = .ok (.ifCond .eq 83, 3) := by decide +kernel
theorem dX10_readAct_253 : decode cX10_readAct 253 = .ok (.aload_n 0, 1) := by decide +kernel
theorem dX10_readAct_254 : decode cX10_readAct 254 = .ok (.invokevirtual 181, 3) := by decide +kernel
theorem dX10_readAct_257 : decode cX10_readAct 257 = .ok (.aload_n 0, 1) := by decide +kernel
theorem dX10_readAct_258 : decode cX10_readAct 258 = .ok (.getfield 52, 3) := by decide +kernel
theorem dX10_readAct_261 : decode cX10_readAct 261 = .ok (.iload_n 2, 1) := by decide +kernel
theorem dX10_readAct_262 : decode cX10_readAct 262 = .ok (.aload_n 0, 1) := by decide +kernel
theorem dX10_readAct_263 : decode cX10_readAct 263 = .ok (.iconst 0, 1) := by decide +kernel
theorem dX10_readAct_264 : decode cX10_readAct 264 = .ok (.sipush 1440, 3) := by decide +kernel
theorem dX10_readAct_267 : decode cX10_readAct 267 = .ok (.invokevirtual 219, 3) := by decide +kernel
theorem dX10_readAct_270 : decode cX10_readAct 270 = .ok (.iastore, 1) := by decide +kernel
theorem dX10_readAct_271 : decode cX10_readAct 271 = .ok (.aload_n 0, 1) := by decide +kernel
theorem dX10_readAct_272 : decode cX10_readAct 272 = .ok (.aload_n 0, 1) := by decide +kernel
theorem dX10_readAct_273 : decode cX10_readAct 273 = .ok (.ldc2_w 234, 3) := by decide +kernel
theorem dX10_readAct_276 : decode cX10_readAct 276 = .ok (.invokevirtual 189, 3) := by decide +kernel
theorem dX10_readAct_279 : decode cX10_readAct 279 = .ok (.invokevirtual 226, 3) := by decide +kernel
theorem dX10_readAct_282 : decode cX10_readAct 282 = .ok (.aload_n 0, 1) := by decide +kernel
theorem dX10_readAct_283 : decode cX10_readAct 283 = .ok (.invokevirtual 177, 3) := by decide +kernel
theorem dX10_readAct_286 : decode cX10_readAct 286 = .ok (.ifCond .eq 33, 3) := by decide +kernel
theorem dX10_readAct_289 : decode cX10_readAct 289 = .ok (.aload_n 0, 1) := by decide +kernel
theorem dX10_readAct_290 : decode cX10_readAct 290 = .ok (.getfield 160, 3) := by decide +kernel
theorem dX10_readAct_293 : decode cX10_readAct 293 = .ok (.iconst 3, 1) := by decide +kernel
theorem dX10_readAct_294 : decode cX10_readAct 294 = .ok (.if_icmp .ne 25, 3) := by decide +kernel
theorem dX10_readAct_297 : decode cX10_readAct 297 = .ok (.aload_n 0, 1) := by decide +kernel
theorem dX10_readAct_298 : decode cX10_readAct 298 = .ok (.getfield 166, 3) := by decide +kernel
theorem dX10_readAct_301 : decode cX10_readAct 301 = .ok (.aload_n 0, 1) := by decide +kernel
theorem dX10_readAct_302 : decode cX10_readAct 302 = .ok (.getfield 52, 3) := by decide +kernel
theorem dX10_readAct_305 : decode cX10_readAct 305 = .ok (.iload_n 2, 1) := by decide +kernel
theorem dX10_readAct_306 : decode cX10_readAct 306 = .ok (.iaload, 1) := by decide +kernel
theorem dX10_readAct_307 : decode cX10_readAct 307 = .ok (.if_icmp .gt 12, 3) := by decide +kernel
theorem dX10_readAct_310 : decode cX10_readAct 310 = .ok (.aload_n 0, 1) := by decide +kernel
theorem dX10_readAct_311 : decode cX10_readAct 311 = .ok (.iconst 3, 1) := by decide +kernel
theorem dX10_readAct_312 : decode cX10_readAct 312 = .ok (.aload_n 0, 1) := by decide +kernel
theorem dX10_readAct_313 : decode cX10_readAct 313 = .ok (.getfield 157, 3) := by decide +kernel
theorem dX10_readAct_316 : decode cX10_readAct 316 = .ok (.invokevirtual 173, 3) := by decide +kernel
theorem dX10_readAct_319 : decode cX10_readAct 319 = .ok (.aload_n 0, 1) := by decide +kernel
theorem dX10_readAct_320 : decode cX10_readAct 320 = .ok (.getfield 55, 3) := by decide +kernel
theorem dX10_readAct_323 : decode cX10_readAct 323 = .ok (.iload_n 2, 1) := by decide +kernel
theorem dX10_readAct_324 : decode cX10_readAct 324 = .ok (.aload_n 0, 1) := by decide +kernel
theorem dX10_readAct_325 : decode cX10_readAct 325 = .ok (.iconst 0, 1) := by decide +kernel
theorem dX10_readAct_326 : decode cX10_readAct 326 = .ok (.sipush 1440, 3) := by decide +kernel
theorem dX10_readAct_329 : decode cX10_readAct 329 = .ok (.invokevirtual 219, 3) := by decide +kernel
theorem dX10_readAct_332 : decode cX10_readAct 332 = .ok (.iastore, 1) := by decide +kernel
theorem dX10_readAct_333 : decode cX10_readAct 333 = .ok (.aload_n 0, 1) := by decide +kernel
theorem dX10_readAct_334 : decode cX10_readAct 334 = .ok (.aload_n 0, 1) := by decide +kernel
theorem dX10_readAct_335 : decode cX10_readAct 335 = .ok (.getfield 160, 3) := by decide +kernel
theorem dX10_readAct_338 : decode cX10_readAct 338 = .ok (.iconst 5, 1) := by decide +kernel
theorem dX10_readAct_339 : decode cX10_readAct 339 = .ok (.if_icmp .ne 7, 3) := by decide +kernel
theorem dX10_readAct_342 : decode cX10_readAct 342 = .ok (.iconst 1, 1) := by decide +kernel
theorem dX10_readAct_343 : decode cX10_readAct 343 = .ok (.goto 4, 3) := by decide +kernel
theorem dX10_readAct_346 : decode cX10_readAct 346 = .ok (.iconst 0, 1) := by decide +kernel
theorem dX10_readAct_347 : decode cX10_readAct 347 = .ok (.invokevirtual 226, 3) := by decide +kernel
theorem dX10_readAct_350 : decode cX10_readAct 350 = .ok (.aload_n 0, 1) := by decide +kernel
theorem dX10_readAct_351 : decode cX10_readAct 351 = .ok (.getfield 40, 3) := by decide +kernel
theorem dX10_readAct_354 : decode cX10_readAct 354 = .ok (.aload_n 0, 1) := by decide +kernel
theorem dX10_readAct_355 : decode cX10_readAct 355 = .ok (.getfield 207, 3) := by decide +kernel
theorem dX10_readAct_358 : decode cX10_readAct 358 = .ok (.dup2, 1) := by decide +kernel
theorem dX10_readAct_359 : decode cX10_readAct 359 = .ok (.iaload, 1) := by decide +kernel
theorem dX10_readAct_360 : decode cX10_readAct 360 = .ok (.iconst 1, 1) := by decide +kernel
theorem dX10_readAct_361 : decode cX10_readAct 361 = .ok (.iadd, 1) := by decide +kernel
theorem dX10_readAct_362 : decode cX10_readAct 362 = .ok (.iastore, 1) := by decide +kernel
theorem dX10_readAct_363 : decode cX10_readAct 363 = .ok (.return_, 1) := by decide +kernel
theorem dX10_fault_0 : decode cX10_fault 0 = .ok (.iload_n 1, 1) := by decide +kernel
theorem dX10_fault_1 : decode cX10_fault 1 = .ok (.ifCond .ne 10, 3) := by decide +kernel
theorem dX10_fault_4 : decode cX10_fault 4 = .ok (.aload_n 0, 1) := by decide +kernel
theorem dX10_fault_5 : decode cX10_fault 5 = .ok (.getfield 142, 3) := by decide +kernel
theorem dX10_fault_8 : decode cX10_fault 8 = .ok (.goto 16, 3) := by decide +kernel
theorem dX10_fault_11 : decode cX10_fault 11 = .ok (.iload_n 1, 1) := by decide +kernel
theorem dX10_fault_12 : decode cX10_fault 12 = .ok (.iconst 1, 1) := by decide +kernel
theorem dX10_fault_13 : decode cX10_fault 13 = .ok (.if_icmp .ne 10, 3) := by decide +kernel
theorem dX10_fault_16 : decode cX10_fault 16 = .ok (.aload_n 0, 1) := by decide +kernel
theorem dX10_fault_17 : decode cX10_fault 17 = .ok (.getfield 37, 3) := by decide +kernel
theorem dX10_fault_20 : decode cX10_fault 20 = .ok (.goto 4, 3) := by decide +kernel
theorem dX10_fault_23 : decode cX10_fault 23 = .ok (.iconst (-1), 1) := by decide +kernel
theorem dX10_fault_24 : decode cX10_fault 24 = .ok (.ireturn, 1) := by decide +kernel
theorem dX10_isFor_0 : decode cX10_isFor 0 = .ok (.aload_n 0, 1) := by decide +kernel
theorem dX10_isFor_1 : decode cX10_isFor 1 = .ok (.getfield 46, 3) := by decide +kernel
theorem dX10_isFor_4 : decode cX10_isFor 4 = .ok (.iload_n 1, 1) := by decide +kernel
theorem dX10_isFor_5 : decode cX10_isFor 5 = .ok (.iaload, 1) := by decide +kernel
theorem dX10_isFor_6 : decode cX10_isFor 6 = .ok (.iconst 4, 1) := by decide +kernel
theorem dX10_isFor_7 : decode cX10_isFor 7 = .ok (.if_icmp .eq 13, 3) := by decide +kernel
theorem dX10_isFor_10 : decode cX10_isFor 10 = .ok (.aload_n 0, 1) := by decide +kernel
theorem dX10_isFor_11 : decode cX10_isFor 11 = .ok (.getfield 46, 3) := by decide +kernel
theorem dX10_isFor_14 : decode cX10_isFor 14 = .ok (.iload_n 1, 1) := by decide +kernel
theorem dX10_isFor_15 : decode cX10_isFor 15 = .ok (.iaload, 1) := by decide +kernel
theorem dX10_isFor_16 : decode cX10_isFor 16 = .ok (.iload_n 2, 1) := by decide +kernel
theorem dX10_isFor_17 : decode cX10_isFor 17 = .ok (.if_icmp .ne 48, 3) := by decide +kernel
theorem dX10_isFor_20 : decode cX10_isFor 20 = .ok (.aload_n 0, 1) := by decide +kernel
theorem dX10_isFor_21 : decode cX10_isFor 21 = .ok (.getfield 49, 3) := by decide +kernel
theorem dX10_isFor_24 : decode cX10_isFor 24 = .ok (.iload_n 1, 1) := by decide +kernel
theorem dX10_isFor_25 : decode cX10_isFor 25 = .ok (.iaload, 1) := by decide +kernel
theorem dX10_isFor_26 : decode cX10_isFor 26 = .ok (.ifCond .lt 13, 3) := by decide +kernel
theorem dX10_isFor_29 : decode cX10_isFor 29 = .ok (.aload_n 0, 1) := by decide +kernel
theorem dX10_isFor_30 : decode cX10_isFor 30 = .ok (.getfield 49, 3) := by decide +kernel
theorem dX10_isFor_33 : decode cX10_isFor 33 = .ok (.iload_n 1, 1) := by decide +kernel
theorem dX10_isFor_34 : decode cX10_isFor 34 = .ok (.iaload, 1) := by decide +kernel
theorem dX10_isFor_35 : decode cX10_isFor 35 = .ok (.iload_n 3, 1) := by decide +kernel
theorem dX10_isFor_36 : decode cX10_isFor 36 = .ok (.if_icmp .ne 29, 3) := by decide +kernel
theorem dX10_isFor_39 : decode cX10_isFor 39 = .ok (.iload 4, 2) := by decide +kernel
theorem dX10_isFor_41 : decode cX10_isFor 41 = .ok (.aload_n 0, 1) := by decide +kernel
theorem dX10_isFor_42 : decode cX10_isFor 42 = .ok (.getfield 52, 3) := by decide +kernel
theorem dX10_isFor_45 : decode cX10_isFor 45 = .ok (.iload_n 1, 1) := by decide +kernel
theorem dX10_isFor_46 : decode cX10_isFor 46 = .ok (.iaload, 1) := by decide +kernel
theorem dX10_isFor_47 : decode cX10_isFor 47 = .ok (.if_icmp .lt 18, 3) := by decide +kernel
theorem dX10_isFor_50 : decode cX10_isFor 50 = .ok (.iload 4, 2) := by decide +kernel
theorem dX10_isFor_52 : decode cX10_isFor 52 = .ok (.aload_n 0, 1) := by decide +kernel
theorem dX10_isFor_53 : decode cX10_isFor 53 = .ok (.getfield 55, 3) := by decide +kernel
theorem dX10_isFor_56 : decode cX10_isFor 56 = .ok (.iload_n 1, 1) := by decide +kernel
theorem dX10_isFor_57 : decode cX10_isFor 57 = .ok (.iaload, 1) := by decide +kernel
theorem dX10_isFor_58 : decode cX10_isFor 58 = .ok (.if_icmp .ge 7, 3) := by decide +kernel
theorem dX10_isFor_61 : decode cX10_isFor 61 = .ok (.iconst 1, 1) := by decide +kernel
theorem dX10_isFor_62 : decode cX10_isFor 62 = .ok (.goto 4, 3) := by decide +kernel
theorem dX10_isFor_65 : decode cX10_isFor 65 = .ok (.iconst 0, 1) := by decide +kernel
theorem dX10_isFor_66 : decode cX10_isFor 66 = .ok (.ireturn, 1) := by decide +kernel
theorem dX10_mayDrive_0 : decode cX10_mayDrive 0 = .ok (.iconst 1, 1) := by decide +kernel
theorem dX10_mayDrive_1 : decode cX10_mayDrive 1 = .ok (.istore 4, 2) := by decide +kernel
theorem dX10_mayDrive_3 : decode cX10_mayDrive 3 = .ok (.bipush 20, 2) := by decide +kernel
theorem dX10_mayDrive_5 : decode cX10_mayDrive 5 = .ok (.aload_n 0, 1) := by decide +kernel
theorem dX10_mayDrive_6 : decode cX10_mayDrive 6 = .ok (.getfield 204, 3) := by decide +kernel
theorem dX10_mayDrive_9 : decode cX10_mayDrive 9 = .ok (.imul, 1) := by decide +kernel
theorem dX10_mayDrive_10 : decode cX10_mayDrive 10 = .ok (.istore 5, 2) := by decide +kernel
theorem dX10_mayDrive_12 : decode cX10_mayDrive 12 = .ok (.iload 5, 2) := by decide +kernel
theorem dX10_mayDrive_14 : decode cX10_mayDrive 14 = .ok (.bipush 20, 2) := by decide +kernel
theorem dX10_mayDrive_16 : decode cX10_mayDrive 16 = .ok (.aload_n 0, 1) := by decide +kernel
theorem dX10_mayDrive_17 : decode cX10_mayDrive 17 = .ok (.getfield 204, 3) := by decide +kernel
theorem dX10_mayDrive_20 : decode cX10_mayDrive 20 = .ok (.imul, 1) := by decide +kernel
theorem dX10_mayDrive_21 : decode cX10_mayDrive 21 = .ok (.aload_n 0, 1) := by decide +kernel
theorem dX10_mayDrive_22 : decode cX10_mayDrive 22 = .ok (.getfield 40, 3) := by decide +kernel
theorem dX10_mayDrive_25 : decode cX10_mayDrive 25 = .ok (.aload_n 0, 1) := by decide +kernel
theorem dX10_mayDrive_26 : decode cX10_mayDrive 26 = .ok (.getfield 204, 3) := by decide +kernel
theorem dX10_mayDrive_29 : decode cX10_mayDrive 29 = .ok (.iaload, 1) := by decide +kernel
theorem dX10_mayDrive_30 : decode cX10_mayDrive 30 = .ok (.iadd, 1) := by decide +kernel
theorem dX10_mayDrive_31 : decode cX10_mayDrive 31 = .ok (.if_icmp .ge 49, 3) := by decide +kernel
theorem dX10_mayDrive_34 : decode cX10_mayDrive 34 = .ok (.aload_n 0, 1) := by decide +kernel
theorem dX10_mayDrive_35 : decode cX10_mayDrive 35 = .ok (.getfield 43, 3) := by decide +kernel
theorem dX10_mayDrive_38 : decode cX10_mayDrive 38 = .ok (.iload 5, 2) := by decide +kernel
theorem dX10_mayDrive_40 : decode cX10_mayDrive 40 = .ok (.iaload, 1) := by decide +kernel
theorem dX10_mayDrive_41 : decode cX10_mayDrive 41 = .ok (.ifCond .ge 33, 3) := by decide +kernel
theorem dX10_mayDrive_44 : decode cX10_mayDrive 44 = .ok (.aload_n 0, 1) := by decide +kernel
theorem dX10_mayDrive_45 : decode cX10_mayDrive 45 = .ok (.iload 5, 2) := by decide +kernel
theorem dX10_mayDrive_47 : decode cX10_mayDrive 47 = .ok (.iload_n 1, 1) := by decide +kernel
theorem dX10_mayDrive_48 : decode cX10_mayDrive 48 = .ok (.iload_n 2, 1) := by decide +kernel
theorem dX10_mayDrive_49 : decode cX10_mayDrive 49 = .ok (.iload_n 3, 1) := by decide +kernel
theorem dX10_mayDrive_50 : decode cX10_mayDrive 50 = .ok (.invokevirtual 236, 3) := by decide +kernel
theorem dX10_mayDrive_53 : decode cX10_mayDrive 53 = .ok (.ifCond .eq 21, 3) := by decide +kernel
theorem dX10_mayDrive_56 : decode cX10_mayDrive 56 = .ok (.aload_n 0, 1) := by decide +kernel
theorem dX10_mayDrive_57 : decode cX10_mayDrive 57 = .ok (.getfield 43, 3) := by decide +kernel
theorem dX10_mayDrive_60 : decode cX10_mayDrive 60 = .ok (.iload 5, 2) := by decide +kernel
theorem dX10_mayDrive_62 : decode cX10_mayDrive 62 = .ok (.iaload, 1) := by decide +kernel
theorem dX10_mayDrive_63 : decode cX10_mayDrive 63 = .ok (.iconst (-1), 1) := by decide +kernel
theorem dX10_mayDrive_64 : decode cX10_mayDrive 64 = .ok (.if_icmp .ne 7, 3) := by decide +kernel
theorem dX10_mayDrive_67 : decode cX10_mayDrive 67 = .ok (.iconst 1, 1) := by decide +kernel
theorem dX10_mayDrive_68 : decode cX10_mayDrive 68 = .ok (.goto 4, 3) := by decide +kernel
theorem dX10_mayDrive_71 : decode cX10_mayDrive 71 = .ok (.iconst 0, 1) := by decide +kernel
theorem dX10_mayDrive_72 : decode cX10_mayDrive 72 = .ok (.istore 4, 2) := by decide +kernel
theorem dX10_mayDrive_74 : decode cX10_mayDrive 74 = .ok (.iinc 5 1, 3) := by decide +kernel
theorem dX10_mayDrive_77 : decode cX10_mayDrive 77 = .ok (.goto (-65), 3) := by decide +kernel
theorem dX10_mayDrive_80 : decode cX10_mayDrive 80 = .ok (.iload 4, 2) := by decide +kernel
theorem dX10_mayDrive_82 : decode cX10_mayDrive 82 = .ok (.ireturn, 1) := by decide +kernel
theorem dX10_speedOf_0 : decode cX10_speedOf 0 = .ok (.iconst 5, 1) := by decide +kernel
theorem dX10_speedOf_1 : decode cX10_speedOf 1 = .ok (.istore 4, 2) := by decide +kernel
theorem dX10_speedOf_3 : decode cX10_speedOf 3 = .ok (.bipush 20, 2) := by decide +kernel
theorem dX10_speedOf_5 : decode cX10_speedOf 5 = .ok (.aload_n 0, 1) := by decide +kernel
theorem dX10_speedOf_6 : decode cX10_speedOf 6 = .ok (.getfield 204, 3) := by decide +kernel
theorem dX10_speedOf_9 : decode cX10_speedOf 9 = .ok (.imul, 1) := by decide +kernel
theorem dX10_speedOf_10 : decode cX10_speedOf 10 = .ok (.istore 5, 2) := by decide +kernel
theorem dX10_speedOf_12 : decode cX10_speedOf 12 = .ok (.iload 5, 2) := by decide +kernel
theorem dX10_speedOf_14 : decode cX10_speedOf 14 = .ok (.bipush 20, 2) := by decide +kernel
theorem dX10_speedOf_16 : decode cX10_speedOf 16 = .ok (.aload_n 0, 1) := by decide +kernel
theorem dX10_speedOf_17 : decode cX10_speedOf 17 = .ok (.getfield 204, 3) := by decide +kernel
theorem dX10_speedOf_20 : decode cX10_speedOf 20 = .ok (.imul, 1) := by decide +kernel
theorem dX10_speedOf_21 : decode cX10_speedOf 21 = .ok (.aload_n 0, 1) := by decide +kernel
theorem dX10_speedOf_22 : decode cX10_speedOf 22 = .ok (.getfield 40, 3) := by decide +kernel
theorem dX10_speedOf_25 : decode cX10_speedOf 25 = .ok (.aload_n 0, 1) := by decide +kernel
theorem dX10_speedOf_26 : decode cX10_speedOf 26 = .ok (.getfield 204, 3) := by decide +kernel
theorem dX10_speedOf_29 : decode cX10_speedOf 29 = .ok (.iaload, 1) := by decide +kernel
theorem dX10_speedOf_30 : decode cX10_speedOf 30 = .ok (.iadd, 1) := by decide +kernel
theorem dX10_speedOf_31 : decode cX10_speedOf 31 = .ok (.if_icmp .ge 40, 3) := by decide +kernel
theorem dX10_speedOf_34 : decode cX10_speedOf 34 = .ok (.aload_n 0, 1) := by decide +kernel
theorem dX10_speedOf_35 : decode cX10_speedOf 35 = .ok (.getfield 43, 3) := by decide +kernel
theorem dX10_speedOf_38 : decode cX10_speedOf 38 = .ok (.iload 5, 2) := by decide +kernel
theorem dX10_speedOf_40 : decode cX10_speedOf 40 = .ok (.iaload, 1) := by decide +kernel
theorem dX10_speedOf_41 : decode cX10_speedOf 41 = .ok (.ifCond .le 24, 3) := by decide +kernel
theorem dX10_speedOf_44 : decode cX10_speedOf 44 = .ok (.aload_n 0, 1) := by decide +kernel
theorem dX10_speedOf_45 : decode cX10_speedOf 45 = .ok (.iload 5, 2) := by decide +kernel
theorem dX10_speedOf_47 : decode cX10_speedOf 47 = .ok (.iload_n 1, 1) := by decide +kernel
theorem dX10_speedOf_48 : decode cX10_speedOf 48 = .ok (.iload_n 2, 1) := by decide +kernel
theorem dX10_speedOf_49 : decode cX10_speedOf 49 = .ok (.iload_n 3, 1) := by decide +kernel
theorem dX10_speedOf_50 : decode cX10_speedOf 50 = .ok (.invokevirtual 236, 3) := by decide +kernel
theorem dX10_speedOf_53 : decode cX10_speedOf 53 = .ok (.ifCond .eq 12, 3) := by decide +kernel
theorem dX10_speedOf_56 : decode cX10_speedOf 56 = .ok (.aload_n 0, 1) := by decide +kernel
theorem dX10_speedOf_57 : decode cX10_speedOf 57 = .ok (.getfield 43, 3) := by decide +kernel
theorem dX10_speedOf_60 : decode cX10_speedOf 60 = .ok (.iload 5, 2) := by decide +kernel
theorem dX10_speedOf_62 : decode cX10_speedOf 62 = .ok (.iaload, 1) := by decide +kernel
theorem dX10_speedOf_63 : decode cX10_speedOf 63 = .ok (.istore 4, 2) := by decide +kernel
theorem dX10_speedOf_65 : decode cX10_speedOf 65 = .ok (.iinc 5 1, 3) := by decide +kernel
theorem dX10_speedOf_68 : decode cX10_speedOf 68 = .ok (.goto (-56), 3) := by decide +kernel
theorem dX10_speedOf_71 : decode cX10_speedOf 71 = .ok (.iload 4, 2) := by decide +kernel
theorem dX10_speedOf_73 : decode cX10_speedOf 73 = .ok (.ireturn, 1) := by decide +kernel
theorem dX10_isKind_0 : decode cX10_isKind 0 = .ok (.iload_n 0, 1) := by decide +kernel
theorem dX10_isKind_1 : decode cX10_isKind 1 = .ok (.ifCond .lt 12, 3) := by decide +kernel
theorem dX10_isKind_4 : decode cX10_isKind 4 = .ok (.iload_n 0, 1) := by decide +kernel
theorem dX10_isKind_5 : decode cX10_isKind 5 = .ok (.iconst 4, 1) := by decide +kernel
theorem dX10_isKind_6 : decode cX10_isKind 6 = .ok (.if_icmp .ge 7, 3) := by decide +kernel
theorem dX10_isKind_9 : decode cX10_isKind 9 = .ok (.iconst 1, 1) := by decide +kernel
theorem dX10_isKind_10 : decode cX10_isKind 10 = .ok (.goto 4, 3) := by decide +kernel
theorem dX10_isKind_13 : decode cX10_isKind 13 = .ok (.iconst 0, 1) := by decide +kernel
theorem dX10_isKind_14 : decode cX10_isKind 14 = .ok (.ireturn, 1) := by decide +kernel
theorem dX10_isMinute_0 : decode cX10_isMinute 0 = .ok (.iload_n 0, 1) := by decide +kernel
theorem dX10_isMinute_1 : decode cX10_isMinute 1 = .ok (.ifCond .lt 14, 3) := by decide +kernel
theorem dX10_isMinute_4 : decode cX10_isMinute 4 = .ok (.iload_n 0, 1) := by decide +kernel
theorem dX10_isMinute_5 : decode cX10_isMinute 5 = .ok (.sipush 1440, 3) := by decide +kernel
theorem dX10_isMinute_8 : decode cX10_isMinute 8 = .ok (.if_icmp .ge 7, 3) := by decide +kernel
theorem dX10_isMinute_11 : decode cX10_isMinute 11 = .ok (.iconst 1, 1) := by decide +kernel
theorem dX10_isMinute_12 : decode cX10_isMinute 12 = .ok (.goto 4, 3) := by decide +kernel
theorem dX10_isMinute_15 : decode cX10_isMinute 15 = .ok (.iconst 0, 1) := by decide +kernel
theorem dX10_isMinute_16 : decode cX10_isMinute 16 = .ok (.ireturn, 1) := by decide +kernel
theorem dX10_may_0 : decode cX10_may 0 = .ok (.iload_n 1, 1) := by decide +kernel
theorem dX10_may_1 : decode cX10_may 1 = .ok (.invokestatic 240, 3) := by decide +kernel
theorem dX10_may_4 : decode cX10_may 4 = .ok (.ifCond .eq 18, 3) := by decide +kernel
theorem dX10_may_7 : decode cX10_may 7 = .ok (.aload_n 0, 1) := by decide +kernel
theorem dX10_may_8 : decode cX10_may 8 = .ok (.iload_n 2, 1) := by decide +kernel
theorem dX10_may_9 : decode cX10_may 9 = .ok (.invokevirtual 132, 3) := by decide +kernel
theorem dX10_may_12 : decode cX10_may 12 = .ok (.ifCond .eq 10, 3) := by decide +kernel
theorem dX10_may_15 : decode cX10_may 15 = .ok (.iload_n 3, 1) := by decide +kernel
theorem dX10_may_16 : decode cX10_may 16 = .ok (.invokestatic 243, 3) := by decide +kernel
theorem dX10_may_19 : decode cX10_may 19 = .ok (.ifCond .ne 7, 3) := by decide +kernel
theorem dX10_may_22 : decode cX10_may 22 = .ok (.iconst (-1), 1) := by decide +kernel
theorem dX10_may_23 : decode cX10_may 23 = .ok (.goto 18, 3) := by decide +kernel
theorem dX10_may_26 : decode cX10_may 26 = .ok (.aload_n 0, 1) := by decide +kernel
theorem dX10_may_27 : decode cX10_may 27 = .ok (.iload_n 1, 1) := by decide +kernel
theorem dX10_may_28 : decode cX10_may 28 = .ok (.iload_n 2, 1) := by decide +kernel
theorem dX10_may_29 : decode cX10_may 29 = .ok (.iload_n 3, 1) := by decide +kernel
theorem dX10_may_30 : decode cX10_may 30 = .ok (.invokevirtual 246, 3) := by decide +kernel
theorem dX10_may_33 : decode cX10_may 33 = .ok (.ifCond .eq 7, 3) := by decide +kernel
theorem dX10_may_36 : decode cX10_may 36 = .ok (.iconst 1, 1) := by decide +kernel
theorem dX10_may_37 : decode cX10_may 37 = .ok (.goto 4, 3) := by decide +kernel
theorem dX10_may_40 : decode cX10_may 40 = .ok (.iconst 0, 1) := by decide +kernel
theorem dX10_may_41 : decode cX10_may 41 = .ok (.ireturn, 1) := by decide +kernel
theorem dX10_speed_0 : decode cX10_speed 0 = .ok (.iload_n 1, 1) := by decide +kernel
theorem dX10_speed_1 : decode cX10_speed 1 = .ok (.invokestatic 240, 3) := by decide +kernel
theorem dX10_speed_4 : decode cX10_speed 4 = .ok (.ifCond .eq 18, 3) := by decide +kernel
theorem dX10_speed_7 : decode cX10_speed 7 = .ok (.aload_n 0, 1) := by decide +kernel
theorem dX10_speed_8 : decode cX10_speed 8 = .ok (.iload_n 2, 1) := by decide +kernel
theorem dX10_speed_9 : decode cX10_speed 9 = .ok (.invokevirtual 132, 3) := by decide +kernel
theorem dX10_speed_12 : decode cX10_speed 12 = .ok (.ifCond .eq 10, 3) := by decide +kernel
theorem dX10_speed_15 : decode cX10_speed 15 = .ok (.iload_n 3, 1) := by decide +kernel
theorem dX10_speed_16 : decode cX10_speed 16 = .ok (.invokestatic 243, 3) := by decide +kernel
theorem dX10_speed_19 : decode cX10_speed 19 = .ok (.ifCond .ne 7, 3) := by decide +kernel
theorem dX10_speed_22 : decode cX10_speed 22 = .ok (.iconst (-1), 1) := by decide +kernel
theorem dX10_speed_23 : decode cX10_speed 23 = .ok (.goto 10, 3) := by decide +kernel
theorem dX10_speed_26 : decode cX10_speed 26 = .ok (.aload_n 0, 1) := by decide +kernel
theorem dX10_speed_27 : decode cX10_speed 27 = .ok (.iload_n 1, 1) := by decide +kernel
theorem dX10_speed_28 : decode cX10_speed 28 = .ok (.iload_n 2, 1) := by decide +kernel
theorem dX10_speed_29 : decode cX10_speed 29 = .ok (.iload_n 3, 1) := by decide +kernel
theorem dX10_speed_30 : decode cX10_speed 30 = .ok (.invokevirtual 250, 3) := by decide +kernel
theorem dX10_speed_33 : decode cX10_speed 33 = .ok (.ireturn, 1) := by decide +kernel
theorem dX10_spot_0 : decode cX10_spot 0 = .ok (.bipush 32, 2) := by decide +kernel
theorem dX10_spot_2 : decode cX10_spot 2 = .ok (.iload_n 0, 1) := by decide +kernel
theorem dX10_spot_3 : decode cX10_spot 3 = .ok (.imul, 1) := by decide +kernel
theorem dX10_spot_4 : decode cX10_spot 4 = .ok (.iconst 2, 1) := by decide +kernel
theorem dX10_spot_5 : decode cX10_spot 5 = .ok (.iload_n 1, 1) := by decide +kernel
theorem dX10_spot_6 : decode cX10_spot 6 = .ok (.imul, 1) := by decide +kernel
theorem dX10_spot_7 : decode cX10_spot 7 = .ok (.iadd, 1) := by decide +kernel
theorem dX10_spot_8 : decode cX10_spot 8 = .ok (.iload_n 2, 1) := by decide +kernel
theorem dX10_spot_9 : decode cX10_spot 9 = .ok (.iadd, 1) := by decide +kernel
theorem dX10_spot_10 : decode cX10_spot 10 = .ok (.ireturn, 1) := by decide +kernel
theorem dX10_enters_0 : decode cX10_enters 0 = .ok (.iload_n 3, 1) := by decide +kernel
theorem dX10_enters_1 : decode cX10_enters 1 = .ok (.sipush 3000, 3) := by decide +kernel
theorem dX10_enters_4 : decode cX10_enters 4 = .ok (.if_icmp .gt 12, 3) := by decide +kernel
theorem dX10_enters_7 : decode cX10_enters 7 = .ok (.aload_n 0, 1) := by decide +kernel
theorem dX10_enters_8 : decode cX10_enters 8 = .ok (.iload_n 2, 1) := by decide +kernel
theorem dX10_enters_9 : decode cX10_enters 9 = .ok (.iload_n 1, 1) := by decide +kernel
theorem dX10_enters_10 : decode cX10_enters 10 = .ok (.invokevirtual 121, 3) := by decide +kernel
theorem dX10_enters_13 : decode cX10_enters 13 = .ok (.ifCond .ne 4, 3) := by decide +kernel
theorem dX10_enters_16 : decode cX10_enters 16 = .ok (.return_, 1) := by decide +kernel
theorem dX10_enters_17 : decode cX10_enters 17 = .ok (.aload_n 0, 1) := by decide +kernel
theorem dX10_enters_18 : decode cX10_enters 18 = .ok (.getfield 254, 3) := by decide +kernel
theorem dX10_enters_21 : decode cX10_enters 21 = .ok (.iload_n 3, 1) := by decide +kernel
theorem dX10_enters_22 : decode cX10_enters 22 = .ok (.iadd, 1) := by decide +kernel
theorem dX10_enters_23 : decode cX10_enters 23 = .ok (.invokestatic 117, 3) := by decide +kernel
theorem dX10_enters_26 : decode cX10_enters 26 = .ok (.istore 5, 2) := by decide +kernel
theorem dX10_enters_28 : decode cX10_enters 28 = .ok (.aload_n 0, 1) := by decide +kernel
theorem dX10_enters_29 : decode cX10_enters 29 = .ok (.getfield 7, 3) := by decide +kernel
theorem dX10_enters_32 : decode cX10_enters 32 = .ok (.iload_n 2, 1) := by decide +kernel
theorem dX10_enters_33 : decode cX10_enters 33 = .ok (.iaload, 1) := by decide +kernel
theorem dX10_enters_34 : decode cX10_enters 34 = .ok (.iload_n 1, 1) := by decide +kernel
theorem dX10_enters_35 : decode cX10_enters 35 = .ok (.if_icmp .ne 7, 3) := by decide +kernel
theorem dX10_enters_38 : decode cX10_enters 38 = .ok (.iconst 0, 1) := by decide +kernel
theorem dX10_enters_39 : decode cX10_enters 39 = .ok (.goto 4, 3) := by decide +kernel
theorem dX10_enters_42 : decode cX10_enters 42 = .ok (.iconst 1, 1) := by decide +kernel
theorem dX10_enters_43 : decode cX10_enters 43 = .ok (.istore 6, 2) := by decide +kernel
theorem dX10_enters_45 : decode cX10_enters 45 = .ok (.aload_n 0, 1) := by decide +kernel
theorem dX10_enters_46 : decode cX10_enters 46 = .ok (.getfield 19, 3) := by decide +kernel
theorem dX10_enters_49 : decode cX10_enters 49 = .ok (.iload_n 2, 1) := by decide +kernel
theorem dX10_enters_50 : decode cX10_enters 50 = .ok (.baload, 1) := by decide +kernel
theorem dX10_enters_51 : decode cX10_enters 51 = .ok (.ifCond .ne 22, 3) := by decide +kernel
theorem dX10_enters_54 : decode cX10_enters 54 = .ok (.iload 6, 2) := by decide +kernel
theorem dX10_enters_56 : decode cX10_enters 56 = .ok (.aload_n 0, 1) := by decide +kernel
theorem dX10_enters_57 : decode cX10_enters 57 = .ok (.iload 5, 2) := by decide +kernel
theorem dX10_enters_59 : decode cX10_enters 59 = .ok (.invokevirtual 129, 3) := by decide +kernel
theorem dX10_enters_62 : decode cX10_enters 62 = .ok (.ifCond .eq 7, 3) := by decide +kernel
theorem dX10_enters_65 : decode cX10_enters 65 = .ok (.iconst 1, 1) := by decide +kernel
theorem dX10_enters_66 : decode cX10_enters 66 = .ok (.goto 4, 3) := by decide +kernel
theorem dX10_enters_69 : decode cX10_enters 69 = .ok (.iconst 0, 1) := by decide +kernel
theorem dX10_enters_70 : decode cX10_enters 70 = .ok (.if_icmp .eq 17, 3) := by decide +kernel
theorem dX10_enters_73 : decode cX10_enters 73 = .ok (.aload_n 0, 1) := by decide +kernel
theorem dX10_enters_74 : decode cX10_enters 74 = .ok (.aload_n 0, 1) := by decide +kernel
theorem dX10_enters_75 : decode cX10_enters 75 = .ok (.getfield 257, 3) := by decide +kernel
theorem dX10_enters_78 : decode cX10_enters 78 = .ok (.iload_n 2, 1) := by decide +kernel
theorem dX10_enters_79 : decode cX10_enters 79 = .ok (.iload 5, 2) := by decide +kernel
theorem dX10_enters_81 : decode cX10_enters 81 = .ok (.invokevirtual 246, 3) := by decide +kernel
theorem dX10_enters_84 : decode cX10_enters 84 = .ok (.ifCond .ne 4, 3) := by decide +kernel
theorem dX10_enters_87 : decode cX10_enters 87 = .ok (.return_, 1) := by decide +kernel
theorem dX10_enters_88 : decode cX10_enters 88 = .ok (.aload_n 0, 1) := by decide +kernel
theorem dX10_enters_89 : decode cX10_enters 89 = .ok (.aload_n 0, 1) := by decide +kernel
theorem dX10_enters_90 : decode cX10_enters 90 = .ok (.getfield 257, 3) := by decide +kernel
theorem dX10_enters_93 : decode cX10_enters 93 = .ok (.iload_n 2, 1) := by decide +kernel
theorem dX10_enters_94 : decode cX10_enters 94 = .ok (.iload 5, 2) := by decide +kernel
theorem dX10_enters_96 : decode cX10_enters 96 = .ok (.invokevirtual 250, 3) := by decide +kernel
theorem dX10_enters_99 : decode cX10_enters 99 = .ok (.istore 7, 2) := by decide +kernel
theorem dX10_enters_101 : decode cX10_enters 101 = .ok (.iload_n 3, 1) := by decide +kernel
theorem dX10_enters_102 : decode cX10_enters 102 = .ok (.bipush 10, 2) := by decide +kernel
theorem dX10_enters_104 : decode cX10_enters 104 = .ok (.aload_n 0, 1) := by decide +kernel
theorem dX10_enters_105 : decode cX10_enters 105 = .ok (.getfield 16, 3) := by decide +kernel
theorem dX10_enters_108 : decode cX10_enters 108 = .ok (.iload_n 2, 1) := by decide +kernel
theorem dX10_enters_109 : decode cX10_enters 109 = .ok (.iaload, 1) := by decide +kernel
theorem dX10_enters_110 : decode cX10_enters 110 = .ok (.imul, 1) := by decide +kernel
theorem dX10_enters_111 : decode cX10_enters 111 = .ok (.iload 7, 2) := by decide +kernel
theorem dX10_enters_113 : decode cX10_enters 113 = .ok (.iadd, 1) := by decide +kernel
theorem dX10_enters_114 : decode cX10_enters 114 = .ok (.iconst 1, 1) := by decide +kernel
theorem dX10_enters_115 : decode cX10_enters 115 = .ok (.isub, 1) := by decide +kernel
theorem dX10_enters_116 : decode cX10_enters 116 = .ok (.iload 7, 2) := by decide +kernel
theorem dX10_enters_118 : decode cX10_enters 118 = .ok (.idiv, 1) := by decide +kernel
theorem dX10_enters_119 : decode cX10_enters 119 = .ok (.iadd, 1) := by decide +kernel
theorem dX10_enters_120 : decode cX10_enters 120 = .ok (.istore 8, 2) := by decide +kernel
theorem dX10_enters_122 : decode cX10_enters 122 = .ok (.iload 8, 2) := by decide +kernel
theorem dX10_enters_124 : decode cX10_enters 124 = .ok (.sipush 3000, 3) := by decide +kernel
theorem dX10_enters_127 : decode cX10_enters 127 = .ok (.if_icmp .le 4, 3) := by decide +kernel
theorem dX10_enters_130 : decode cX10_enters 130 = .ok (.return_, 1) := by decide +kernel
theorem dX10_enters_131 : decode cX10_enters 131 = .ok (.iload 8, 2) := by decide +kernel
theorem dX10_enters_133 : decode cX10_enters 133 = .ok (.iload_n 2, 1) := by decide +kernel
theorem dX10_enters_134 : decode cX10_enters 134 = .ok (.iload 6, 2) := by decide +kernel
theorem dX10_enters_136 : decode cX10_enters 136 = .ok (.invokestatic 260, 3) := by decide +kernel
theorem dX10_enters_139 : decode cX10_enters 139 = .ok (.istore 9, 2) := by decide +kernel
theorem dX10_enters_141 : decode cX10_enters 141 = .ok (.aload_n 0, 1) := by decide +kernel
theorem dX10_enters_142 : decode cX10_enters 142 = .ok (.getfield 59, 3) := by decide +kernel
theorem dX10_enters_145 : decode cX10_enters 145 = .ok (.iload 9, 2) := by decide +kernel
theorem dX10_enters_147 : decode cX10_enters 147 = .ok (.iaload, 1) := by decide +kernel
theorem dX10_enters_148 : decode cX10_enters 148 = .ok (.ifCond .eq 15, 3) := by decide +kernel
theorem dX10_enters_151 : decode cX10_enters 151 = .ok (.iload 4, 2) := by decide +kernel
theorem dX10_enters_153 : decode cX10_enters 153 = .ok (.aload_n 0, 1) := by decide +kernel
theorem dX10_enters_154 : decode cX10_enters 154 = .ok (.getfield 59, 3) := by decide +kernel
theorem dX10_enters_157 : decode cX10_enters 157 = .ok (.iload 9, 2) := by decide +kernel
theorem dX10_enters_159 : decode cX10_enters 159 = .ok (.iaload, 1) := by decide +kernel
theorem dX10_enters_160 : decode cX10_enters 160 = .ok (.if_icmp .ge 12, 3) := by decide +kernel
theorem dX10_enters_163 : decode cX10_enters 163 = .ok (.aload_n 0, 1) := by decide +kernel
theorem dX10_enters_164 : decode cX10_enters 164 = .ok (.getfield 59, 3) := by decide +kernel
theorem dX10_enters_167 : decode cX10_enters 167 = .ok (.iload 9, 2) := by decide +kernel
theorem dX10_enters_169 : decode cX10_enters 169 = .ok (.iload 4, 2) := by decide +kernel
theorem dX10_enters_171 : decode cX10_enters 171 = .ok (.iastore, 1) := by decide +kernel
theorem dX10_enters_172 : decode cX10_enters 172 = .ok (.return_, 1) := by decide +kernel
theorem dX10_drive_0 : decode cX10_drive 0 = .ok (.aload_n 0, 1) := by decide +kernel
theorem dX10_drive_1 : decode cX10_drive 1 = .ok (.iload 4, 2) := by decide +kernel
theorem dX10_drive_3 : decode cX10_drive 3 = .ok (.putfield 254, 3) := by decide +kernel
theorem dX10_drive_6 : decode cX10_drive 6 = .ok (.aload_n 0, 1) := by decide +kernel
theorem dX10_drive_7 : decode cX10_drive 7 = .ok (.iload_n 1, 1) := by decide +kernel
theorem dX10_drive_8 : decode cX10_drive 8 = .ok (.putfield 257, 3) := by decide +kernel
theorem dX10_drive_11 : decode cX10_drive 11 = .ok (.iconst 0, 1) := by decide +kernel
theorem dX10_drive_12 : decode cX10_drive 12 = .ok (.istore 5, 2) := by decide +kernel
theorem dX10_drive_14 : decode cX10_drive 14 = .ok (.iload 5, 2) := by decide +kernel
theorem dX10_drive_16 : decode cX10_drive 16 = .ok (.ldc 58, 2) := by decide +kernel
theorem dX10_drive_18 : decode cX10_drive 18 = .ok (.if_icmp .ge 17, 3) := by decide +kernel
theorem dX10_drive_21 : decode cX10_drive 21 = .ok (.aload_n 0, 1) := by decide +kernel
theorem dX10_drive_22 : decode cX10_drive 22 = .ok (.getfield 59, 3) := by decide +kernel
theorem dX10_drive_25 : decode cX10_drive 25 = .ok (.iload 5, 2) := by decide +kernel
theorem dX10_drive_27 : decode cX10_drive 27 = .ok (.iconst 0, 1) := by decide +kernel
theorem dX10_drive_28 : decode cX10_drive 28 = .ok (.iastore, 1) := by decide +kernel
theorem dX10_drive_29 : decode cX10_drive 29 = .ok (.iinc 5 1, 3) := by decide +kernel
theorem dX10_drive_32 : decode cX10_drive 32 = .ok (.goto (-18), 3) := by decide +kernel
theorem dX10_drive_35 : decode cX10_drive 35 = .ok (.iconst 0, 1) := by decide +kernel
theorem dX10_drive_36 : decode cX10_drive 36 = .ok (.istore 5, 2) := by decide +kernel
theorem dX10_drive_38 : decode cX10_drive 38 = .ok (.iload 5, 2) := by decide +kernel
theorem dX10_drive_40 : decode cX10_drive 40 = .ok (.aload_n 0, 1) := by decide +kernel
theorem dX10_drive_41 : decode cX10_drive 41 = .ok (.getfield 107, 3) := by decide +kernel
theorem dX10_drive_44 : decode cX10_drive 44 = .ok (.if_icmp .ge 18, 3) := by decide +kernel
theorem dX10_drive_47 : decode cX10_drive 47 = .ok (.aload_n 0, 1) := by decide +kernel
theorem dX10_drive_48 : decode cX10_drive 48 = .ok (.iload_n 2, 1) := by decide +kernel
theorem dX10_drive_49 : decode cX10_drive 49 = .ok (.iload 5, 2) := by decide +kernel
theorem dX10_drive_51 : decode cX10_drive 51 = .ok (.iconst 0, 1) := by decide +kernel
theorem dX10_drive_52 : decode cX10_drive 52 = .ok (.iconst 1, 1) := by decide +kernel
theorem dX10_drive_53 : decode cX10_drive 53 = .ok (.invokevirtual 263, 3) := by decide +kernel
theorem dX10_drive_56 : decode cX10_drive 56 = .ok (.iinc 5 1, 3) := by decide +kernel
theorem dX10_drive_59 : decode cX10_drive 59 = .ok (.goto (-21), 3) := by decide +kernel
theorem dX10_drive_62 : decode cX10_drive 62 = .ok (.iconst 1, 1) := by decide +kernel
theorem dX10_drive_63 : decode cX10_drive 63 = .ok (.istore 5, 2) := by decide +kernel
theorem dX10_drive_65 : decode cX10_drive 65 = .ok (.iload 5, 2) := by decide +kernel
theorem dX10_drive_67 : decode cX10_drive 67 = .ok (.sipush 3000, 3) := by decide +kernel
theorem dX10_drive_70 : decode cX10_drive 70 = .ok (.if_icmp .gt 144, 3) := by decide +kernel
theorem dX10_drive_73 : decode cX10_drive 73 = .ok (.aload_n 0, 1) := by decide +kernel
theorem dX10_drive_74 : decode cX10_drive 74 = .ok (.ldc_w 267, 3) := by decide +kernel
theorem dX10_drive_77 : decode cX10_drive 77 = .ok (.putfield 268, 3) := by decide +kernel
theorem dX10_drive_80 : decode cX10_drive 80 = .ok (.iconst 0, 1) := by decide +kernel
theorem dX10_drive_81 : decode cX10_drive 81 = .ok (.istore 6, 2) := by decide +kernel
theorem dX10_drive_83 : decode cX10_drive 83 = .ok (.iload 6, 2) := by decide +kernel
theorem dX10_drive_85 : decode cX10_drive 85 = .ok (.iconst 2, 1) := by decide +kernel
theorem dX10_drive_86 : decode cX10_drive 86 = .ok (.aload_n 0, 1) := by decide +kernel
theorem dX10_drive_87 : decode cX10_drive 87 = .ok (.getfield 107, 3) := by decide +kernel
theorem dX10_drive_90 : decode cX10_drive 90 = .ok (.imul, 1) := by decide +kernel
theorem dX10_drive_91 : decode cX10_drive 91 = .ok (.if_icmp .ge 104, 3) := by decide +kernel
theorem dX10_drive_94 : decode cX10_drive 94 = .ok (.aload_n 0, 1) := by decide +kernel
theorem dX10_drive_95 : decode cX10_drive 95 = .ok (.getfield 59, 3) := by decide +kernel
theorem dX10_drive_98 : decode cX10_drive 98 = .ok (.iload 5, 2) := by decide +kernel
theorem dX10_drive_100 : decode cX10_drive 100 = .ok (.iconst 0, 1) := by decide +kernel
theorem dX10_drive_101 : decode cX10_drive 101 = .ok (.iload 6, 2) := by decide +kernel
theorem dX10_drive_103 : decode cX10_drive 103 = .ok (.invokestatic 260, 3) := by decide +kernel
theorem dX10_drive_106 : decode cX10_drive 106 = .ok (.iaload, 1) := by decide +kernel
theorem dX10_drive_107 : decode cX10_drive 107 = .ok (.istore 7, 2) := by decide +kernel
theorem dX10_drive_109 : decode cX10_drive 109 = .ok (.iload 7, 2) := by decide +kernel
theorem dX10_drive_111 : decode cX10_drive 111 = .ok (.ifCond .ne 6, 3) := by decide +kernel
theorem dX10_drive_114 : decode cX10_drive 114 = .ok (.goto 75, 3) := by decide +kernel
theorem dX10_drive_117 : decode cX10_drive 117 = .ok (.iload 6, 2) := by decide +kernel
theorem dX10_drive_119 : decode cX10_drive 119 = .ok (.iconst 2, 1) := by decide +kernel
theorem dX10_drive_120 : decode cX10_drive 120 = .ok (.irem, 1) := by decide +kernel
theorem dX10_drive_121 : decode cX10_drive 121 = .ok (.ifCond .ne 15, 3) := by decide +kernel
theorem dX10_drive_124 : decode cX10_drive 124 = .ok (.aload_n 0, 1) := by decide +kernel
theorem dX10_drive_125 : decode cX10_drive 125 = .ok (.getfield 13, 3) := by decide +kernel
theorem dX10_drive_128 : decode cX10_drive 128 = .ok (.iload 6, 2) := by decide +kernel
theorem dX10_drive_130 : decode cX10_drive 130 = .ok (.iconst 2, 1) := by decide +kernel
theorem dX10_drive_131 : decode cX10_drive 131 = .ok (.idiv, 1) := by decide +kernel
theorem dX10_drive_132 : decode cX10_drive 132 = .ok (.iaload, 1) := by decide +kernel
theorem dX10_drive_133 : decode cX10_drive 133 = .ok (.goto 12, 3) := by decide +kernel
theorem dX10_drive_136 : decode cX10_drive 136 = .ok (.aload_n 0, 1) := by decide +kernel
theorem dX10_drive_137 : decode cX10_drive 137 = .ok (.getfield 7, 3) := by decide +kernel
theorem dX10_drive_140 : decode cX10_drive 140 = .ok (.iload 6, 2) := by decide +kernel
theorem dX10_drive_142 : decode cX10_drive 142 = .ok (.iconst 2, 1) := by decide +kernel
theorem dX10_drive_143 : decode cX10_drive 143 = .ok (.idiv, 1) := by decide +kernel
theorem dX10_drive_144 : decode cX10_drive 144 = .ok (.iaload, 1) := by decide +kernel
theorem dX10_drive_145 : decode cX10_drive 145 = .ok (.istore 8, 2) := by decide +kernel
theorem dX10_drive_147 : decode cX10_drive 147 = .ok (.iload 8, 2) := by decide +kernel
theorem dX10_drive_149 : decode cX10_drive 149 = .ok (.iload_n 3, 1) := by decide +kernel
theorem dX10_drive_150 : decode cX10_drive 150 = .ok (.if_icmp .ne 25, 3) := by decide +kernel
theorem dX10_drive_153 : decode cX10_drive 153 = .ok (.aload_n 0, 1) := by decide +kernel
theorem dX10_drive_154 : decode cX10_drive 154 = .ok (.iload 7, 2) := by decide +kernel
theorem dX10_drive_156 : decode cX10_drive 156 = .ok (.aload_n 0, 1) := by decide +kernel
theorem dX10_drive_157 : decode cX10_drive 157 = .ok (.getfield 268, 3) := by decide +kernel
theorem dX10_drive_160 : decode cX10_drive 160 = .ok (.if_icmp .ge 8, 3) := by decide +kernel
theorem dX10_drive_163 : decode cX10_drive 163 = .ok (.iload 7, 2) := by decide +kernel
theorem dX10_drive_165 : decode cX10_drive 165 = .ok (.goto 7, 3) := by decide +kernel
theorem dX10_drive_168 : decode cX10_drive 168 = .ok (.aload_n 0, 1) := by decide +kernel
theorem dX10_drive_169 : decode cX10_drive 169 = .ok (.getfield 268, 3) := by decide +kernel
theorem dX10_drive_172 : decode cX10_drive 172 = .ok (.putfield 268, 3) := by decide +kernel
theorem dX10_drive_175 : decode cX10_drive 175 = .ok (.aload_n 0, 1) := by decide +kernel
theorem dX10_drive_176 : decode cX10_drive 176 = .ok (.iload 8, 2) := by decide +kernel
theorem dX10_drive_178 : decode cX10_drive 178 = .ok (.iload 6, 2) := by decide +kernel
theorem dX10_drive_180 : decode cX10_drive 180 = .ok (.iconst 2, 1) := by decide +kernel
theorem dX10_drive_181 : decode cX10_drive 181 = .ok (.idiv, 1) := by decide +kernel
theorem dX10_drive_182 : decode cX10_drive 182 = .ok (.iload 5, 2) := by decide +kernel
theorem dX10_drive_184 : decode cX10_drive 184 = .ok (.iload 7, 2) := by decide +kernel
theorem dX10_drive_186 : decode cX10_drive 186 = .ok (.invokevirtual 271, 3) := by decide +kernel
theorem dX10_drive_189 : decode cX10_drive 189 = .ok (.iinc 6 1, 3) := by decide +kernel
theorem dX10_drive_192 : decode cX10_drive 192 = .ok (.goto (-109), 3) := by decide +kernel
theorem dX10_drive_195 : decode cX10_drive 195 = .ok (.aload_n 0, 1) := by decide +kernel
theorem dX10_drive_196 : decode cX10_drive 196 = .ok (.getfield 268, 3) := by decide +kernel
theorem dX10_drive_199 : decode cX10_drive 199 = .ok (.ldc_w 267, 3) := by decide +kernel
theorem dX10_drive_202 : decode cX10_drive 202 = .ok (.if_icmp .ge 6, 3) := by decide +kernel
theorem dX10_drive_205 : decode cX10_drive 205 = .ok (.iload 5, 2) := by decide +kernel
theorem dX10_drive_207 : decode cX10_drive 207 = .ok (.ireturn, 1) := by decide +kernel
theorem dX10_drive_208 : decode cX10_drive 208 = .ok (.iinc 5 1, 3) := by decide +kernel
theorem dX10_drive_211 : decode cX10_drive 211 = .ok (.goto (-146), 3) := by decide +kernel
theorem dX10_drive_214 : decode cX10_drive 214 = .ok (.iconst (-1), 1) := by decide +kernel
theorem dX10_drive_215 : decode cX10_drive 215 = .ok (.ireturn, 1) := by decide +kernel
theorem dX10_goesOn_0 : decode cX10_goesOn 0 = .ok (.iconst 0, 1) := by decide +kernel
theorem dX10_goesOn_1 : decode cX10_goesOn 1 = .ok (.istore 5, 2) := by decide +kernel
theorem dX10_goesOn_3 : decode cX10_goesOn 3 = .ok (.iload 5, 2) := by decide +kernel
theorem dX10_goesOn_5 : decode cX10_goesOn 5 = .ok (.aload_n 0, 1) := by decide +kernel
theorem dX10_goesOn_6 : decode cX10_goesOn 6 = .ok (.getfield 107, 3) := by decide +kernel
theorem dX10_goesOn_9 : decode cX10_goesOn 9 = .ok (.if_icmp .ge 52, 3) := by decide +kernel
theorem dX10_goesOn_12 : decode cX10_goesOn 12 = .ok (.iload 5, 2) := by decide +kernel
theorem dX10_goesOn_14 : decode cX10_goesOn 14 = .ok (.iload_n 2, 1) := by decide +kernel
theorem dX10_goesOn_15 : decode cX10_goesOn 15 = .ok (.if_icmp .eq 40, 3) := by decide +kernel
theorem dX10_goesOn_18 : decode cX10_goesOn 18 = .ok (.aload_n 0, 1) := by decide +kernel
theorem dX10_goesOn_19 : decode cX10_goesOn 19 = .ok (.iload 5, 2) := by decide +kernel
theorem dX10_goesOn_21 : decode cX10_goesOn 21 = .ok (.iload_n 1, 1) := by decide +kernel
theorem dX10_goesOn_22 : decode cX10_goesOn 22 = .ok (.invokevirtual 121, 3) := by decide +kernel
theorem dX10_goesOn_25 : decode cX10_goesOn 25 = .ok (.ifCond .eq 30, 3) := by decide +kernel
theorem dX10_goesOn_28 : decode cX10_goesOn 28 = .ok (.aload_n 0, 1) := by decide +kernel
theorem dX10_goesOn_29 : decode cX10_goesOn 29 = .ok (.iload_n 1, 1) := by decide +kernel
theorem dX10_goesOn_30 : decode cX10_goesOn 30 = .ok (.iload 5, 2) := by decide +kernel
theorem dX10_goesOn_32 : decode cX10_goesOn 32 = .ok (.iload_n 3, 1) := by decide +kernel
theorem dX10_goesOn_33 : decode cX10_goesOn 33 = .ok (.aload_n 0, 1) := by decide +kernel
theorem dX10_goesOn_34 : decode cX10_goesOn 34 = .ok (.iload_n 1, 1) := by decide +kernel
theorem dX10_goesOn_35 : decode cX10_goesOn 35 = .ok (.iload_n 2, 1) := by decide +kernel
theorem dX10_goesOn_36 : decode cX10_goesOn 36 = .ok (.iload 5, 2) := by decide +kernel
theorem dX10_goesOn_38 : decode cX10_goesOn 38 = .ok (.aload_n 0, 1) := by decide +kernel
theorem dX10_goesOn_39 : decode cX10_goesOn 39 = .ok (.getfield 254, 3) := by decide +kernel
theorem dX10_goesOn_42 : decode cX10_goesOn 42 = .ok (.iload_n 3, 1) := by decide +kernel
theorem dX10_goesOn_43 : decode cX10_goesOn 43 = .ok (.iadd, 1) := by decide +kernel
theorem dX10_goesOn_44 : decode cX10_goesOn 44 = .ok (.invokevirtual 135, 3) := by decide +kernel
theorem dX10_goesOn_47 : decode cX10_goesOn 47 = .ok (.iadd, 1) := by decide +kernel
theorem dX10_goesOn_48 : decode cX10_goesOn 48 = .ok (.iload 4, 2) := by decide +kernel
theorem dX10_goesOn_50 : decode cX10_goesOn 50 = .ok (.iconst 1, 1) := by decide +kernel
theorem dX10_goesOn_51 : decode cX10_goesOn 51 = .ok (.iadd, 1) := by decide +kernel
theorem dX10_goesOn_52 : decode cX10_goesOn 52 = .ok (.invokevirtual 263, 3) := by decide +kernel
theorem dX10_goesOn_55 : decode cX10_goesOn 55 = .ok (.iinc 5 1, 3) := by decide +kernel
theorem dX10_goesOn_58 : decode cX10_goesOn 58 = .ok (.goto (-55), 3) := by decide +kernel
theorem dX10_goesOn_61 : decode cX10_goesOn 61 = .ok (.return_, 1) := by decide +kernel
theorem dX10_fastest_0 : decode cX10_fastest 0 = .ok (.iload_n 1, 1) := by decide +kernel
theorem dX10_fastest_1 : decode cX10_fastest 1 = .ok (.invokestatic 240, 3) := by decide +kernel
theorem dX10_fastest_4 : decode cX10_fastest 4 = .ok (.ifCond .eq 27, 3) := by decide +kernel
theorem dX10_fastest_7 : decode cX10_fastest 7 = .ok (.aload_n 0, 1) := by decide +kernel
theorem dX10_fastest_8 : decode cX10_fastest 8 = .ok (.iload_n 2, 1) := by decide +kernel
theorem dX10_fastest_9 : decode cX10_fastest 9 = .ok (.invokevirtual 110, 3) := by decide +kernel
theorem dX10_fastest_12 : decode cX10_fastest 12 = .ok (.ifCond .eq 19, 3) := by decide +kernel
theorem dX10_fastest_15 : decode cX10_fastest 15 = .ok (.aload_n 0, 1) := by decide +kernel
theorem dX10_fastest_16 : decode cX10_fastest 16 = .ok (.iload_n 3, 1) := by decide +kernel
theorem dX10_fastest_17 : decode cX10_fastest 17 = .ok (.invokevirtual 110, 3) := by decide +kernel
theorem dX10_fastest_20 : decode cX10_fastest 20 = .ok (.ifCond .eq 11, 3) := by decide +kernel
theorem dX10_fastest_23 : decode cX10_fastest 23 = .ok (.iload 4, 2) := by decide +kernel
theorem dX10_fastest_25 : decode cX10_fastest 25 = .ok (.invokestatic 243, 3) := by decide +kernel
theorem dX10_fastest_28 : decode cX10_fastest 28 = .ok (.ifCond .ne 5, 3) := by decide +kernel
theorem dX10_fastest_31 : decode cX10_fastest 31 = .ok (.iconst (-1), 1) := by decide +kernel
theorem dX10_fastest_32 : decode cX10_fastest 32 = .ok (.ireturn, 1) := by decide +kernel
theorem dX10_fastest_33 : decode cX10_fastest 33 = .ok (.iload_n 2, 1) := by decide +kernel
theorem dX10_fastest_34 : decode cX10_fastest 34 = .ok (.iload_n 3, 1) := by decide +kernel
theorem dX10_fastest_35 : decode cX10_fastest 35 = .ok (.if_icmp .ne 7, 3) := by decide +kernel
theorem dX10_fastest_38 : decode cX10_fastest 38 = .ok (.iconst 0, 1) := by decide +kernel
theorem dX10_fastest_39 : decode cX10_fastest 39 = .ok (.goto 12, 3) := by decide +kernel
theorem dX10_fastest_42 : decode cX10_fastest 42 = .ok (.aload_n 0, 1) := by decide +kernel
theorem dX10_fastest_43 : decode cX10_fastest 43 = .ok (.iload_n 1, 1) := by decide +kernel
theorem dX10_fastest_44 : decode cX10_fastest 44 = .ok (.iload_n 2, 1) := by decide +kernel
theorem dX10_fastest_45 : decode cX10_fastest 45 = .ok (.iload_n 3, 1) := by decide +kernel
theorem dX10_fastest_46 : decode cX10_fastest 46 = .ok (.iload 4, 2) := by decide +kernel
theorem dX10_fastest_48 : decode cX10_fastest 48 = .ok (.invokevirtual 274, 3) := by decide +kernel
theorem dX10_fastest_51 : decode cX10_fastest 51 = .ok (.ireturn, 1) := by decide +kernel
theorem dX10_streets_0 : decode cX10_streets 0 = .ok (.aload_n 0, 1) := by decide +kernel
theorem dX10_streets_1 : decode cX10_streets 1 = .ok (.iload_n 1, 1) := by decide +kernel
theorem dX10_streets_2 : decode cX10_streets 2 = .ok (.iload_n 2, 1) := by decide +kernel
theorem dX10_streets_3 : decode cX10_streets 3 = .ok (.iload_n 3, 1) := by decide +kernel
theorem dX10_streets_4 : decode cX10_streets 4 = .ok (.iload 4, 2) := by decide +kernel
theorem dX10_streets_6 : decode cX10_streets 6 = .ok (.invokevirtual 277, 3) := by decide +kernel
theorem dX10_streets_9 : decode cX10_streets 9 = .ok (.istore 5, 2) := by decide +kernel
theorem dX10_streets_11 : decode cX10_streets 11 = .ok (.iload 5, 2) := by decide +kernel
theorem dX10_streets_13 : decode cX10_streets 13 = .ok (.ifCond .ge 7, 3) := by decide +kernel
theorem dX10_streets_16 : decode cX10_streets 16 = .ok (.iconst (-1), 1) := by decide +kernel
theorem dX10_streets_17 : decode cX10_streets 17 = .ok (.goto 16, 3) := by decide +kernel
theorem dX10_streets_20 : decode cX10_streets 20 = .ok (.iload 5, 2) := by decide +kernel
theorem dX10_streets_22 : decode cX10_streets 22 = .ok (.ifCond .ne 7, 3) := by decide +kernel
theorem dX10_streets_25 : decode cX10_streets 25 = .ok (.iconst 0, 1) := by decide +kernel
theorem dX10_streets_26 : decode cX10_streets 26 = .ok (.goto 7, 3) := by decide +kernel
theorem dX10_streets_29 : decode cX10_streets 29 = .ok (.aload_n 0, 1) := by decide +kernel
theorem dX10_streets_30 : decode cX10_streets 30 = .ok (.getfield 268, 3) := by decide +kernel
theorem dX10_streets_33 : decode cX10_streets 33 = .ok (.ireturn, 1) := by decide +kernel
theorem dX10_measure_0 : decode cX10_measure 0 = .ok (.iconst 0, 1) := by decide +kernel
theorem dX10_measure_1 : decode cX10_measure 1 = .ok (.istore_n 1, 1) := by decide +kernel
theorem dX10_measure_2 : decode cX10_measure 2 = .ok (.iload_n 1, 1) := by decide +kernel
theorem dX10_measure_3 : decode cX10_measure 3 = .ok (.bipush 64, 2) := by decide +kernel
theorem dX10_measure_5 : decode cX10_measure 5 = .ok (.if_icmp .ge 33, 3) := by decide +kernel
theorem dX10_measure_8 : decode cX10_measure 8 = .ok (.aload_n 0, 1) := by decide +kernel
theorem dX10_measure_9 : decode cX10_measure 9 = .ok (.getfield 62, 3) := by decide +kernel
theorem dX10_measure_12 : decode cX10_measure 12 = .ok (.iload_n 1, 1) := by decide +kernel
theorem dX10_measure_13 : decode cX10_measure 13 = .ok (.iload_n 1, 1) := by decide +kernel
theorem dX10_measure_14 : decode cX10_measure 14 = .ok (.bipush 8, 2) := by decide +kernel
theorem dX10_measure_16 : decode cX10_measure 16 = .ok (.idiv, 1) := by decide +kernel
theorem dX10_measure_17 : decode cX10_measure 17 = .ok (.iload_n 1, 1) := by decide +kernel
theorem dX10_measure_18 : decode cX10_measure 18 = .ok (.bipush 8, 2) := by decide +kernel
theorem dX10_measure_20 : decode cX10_measure 20 = .ok (.irem, 1) := by decide +kernel
theorem dX10_measure_21 : decode cX10_measure 21 = .ok (.if_icmp .ne 7, 3) := by decide +kernel
theorem dX10_measure_24 : decode cX10_measure 24 = .ok (.iconst 0, 1) := by decide +kernel
theorem dX10_measure_25 : decode cX10_measure 25 = .ok (.goto 6, 3) := by decide +kernel
theorem dX10_measure_28 : decode cX10_measure 28 = .ok (.ldc_w 267, 3) := by decide +kernel
theorem dX10_measure_31 : decode cX10_measure 31 = .ok (.iastore, 1) := by decide +kernel
theorem dX10_measure_32 : decode cX10_measure 32 = .ok (.iinc 1 1, 3) := by decide +kernel
theorem dX10_measure_35 : decode cX10_measure 35 = .ok (.goto (-33), 3) := by decide +kernel
theorem dX10_measure_38 : decode cX10_measure 38 = .ok (.iconst 0, 1) := by decide +kernel
theorem dX10_measure_39 : decode cX10_measure 39 = .ok (.istore_n 1, 1) := by decide +kernel
theorem dX10_measure_40 : decode cX10_measure 40 = .ok (.iload_n 1, 1) := by decide +kernel
theorem dX10_measure_41 : decode cX10_measure 41 = .ok (.aload_n 0, 1) := by decide +kernel
theorem dX10_measure_42 : decode cX10_measure 42 = .ok (.getfield 107, 3) := by decide +kernel
theorem dX10_measure_45 : decode cX10_measure 45 = .ok (.if_icmp .ge 96, 3) := by decide +kernel
theorem dX10_measure_48 : decode cX10_measure 48 = .ok (.aload_n 0, 1) := by decide +kernel
theorem dX10_measure_49 : decode cX10_measure 49 = .ok (.getfield 16, 3) := by decide +kernel
theorem dX10_measure_52 : decode cX10_measure 52 = .ok (.iload_n 1, 1) := by decide +kernel
theorem dX10_measure_53 : decode cX10_measure 53 = .ok (.iaload, 1) := by decide +kernel
theorem dX10_measure_54 : decode cX10_measure 54 = .ok (.aload_n 0, 1) := by decide +kernel
theorem dX10_measure_55 : decode cX10_measure 55 = .ok (.getfield 62, 3) := by decide +kernel
theorem dX10_measure_58 : decode cX10_measure 58 = .ok (.bipush 8, 2) := by decide +kernel
theorem dX10_measure_60 : decode cX10_measure 60 = .ok (.aload_n 0, 1) := by decide +kernel
theorem dX10_measure_61 : decode cX10_measure 61 = .ok (.getfield 7, 3) := by decide +kernel
theorem dX10_measure_64 : decode cX10_measure 64 = .ok (.iload_n 1, 1) := by decide +kernel
theorem dX10_measure_65 : decode cX10_measure 65 = .ok (.iaload, 1) := by decide +kernel
theorem dX10_measure_66 : decode cX10_measure 66 = .ok (.imul, 1) := by decide +kernel
theorem dX10_measure_67 : decode cX10_measure 67 = .ok (.aload_n 0, 1) := by decide +kernel
theorem dX10_measure_68 : decode cX10_measure 68 = .ok (.getfield 13, 3) := by decide +kernel
theorem dX10_measure_71 : decode cX10_measure 71 = .ok (.iload_n 1, 1) := by decide +kernel
theorem dX10_measure_72 : decode cX10_measure 72 = .ok (.iaload, 1) := by decide +kernel
theorem dX10_measure_73 : decode cX10_measure 73 = .ok (.iadd, 1) := by decide +kernel
theorem dX10_measure_74 : decode cX10_measure 74 = .ok (.iaload, 1) := by decide +kernel
theorem dX10_measure_75 : decode cX10_measure 75 = .ok (.if_icmp .lt 6, 3) := by decide +kernel
theorem dX10_measure_78 : decode cX10_measure 78 = .ok (.goto 57, 3) := by decide +kernel
theorem dX10_measure_81 : decode cX10_measure 81 = .ok (.aload_n 0, 1) := by decide +kernel
theorem dX10_measure_82 : decode cX10_measure 82 = .ok (.getfield 62, 3) := by decide +kernel
theorem dX10_measure_85 : decode cX10_measure 85 = .ok (.bipush 8, 2) := by decide +kernel
theorem dX10_measure_87 : decode cX10_measure 87 = .ok (.aload_n 0, 1) := by decide +kernel
theorem dX10_measure_88 : decode cX10_measure 88 = .ok (.getfield 7, 3) := by decide +kernel
theorem dX10_measure_91 : decode cX10_measure 91 = .ok (.iload_n 1, 1) := by decide +kernel
theorem dX10_measure_92 : decode cX10_measure 92 = .ok (.iaload, 1) := by decide +kernel
theorem dX10_measure_93 : decode cX10_measure 93 = .ok (.imul, 1) := by decide +kernel
theorem dX10_measure_94 : decode cX10_measure 94 = .ok (.aload_n 0, 1) := by decide +kernel
theorem dX10_measure_95 : decode cX10_measure 95 = .ok (.getfield 13, 3) := by decide +kernel
theorem dX10_measure_98 : decode cX10_measure 98 = .ok (.iload_n 1, 1) := by decide +kernel
theorem dX10_measure_99 : decode cX10_measure 99 = .ok (.iaload, 1) := by decide +kernel
theorem dX10_measure_100 : decode cX10_measure 100 = .ok (.iadd, 1) := by decide +kernel
theorem dX10_measure_101 : decode cX10_measure 101 = .ok (.aload_n 0, 1) := by decide +kernel
theorem dX10_measure_102 : decode cX10_measure 102 = .ok (.getfield 16, 3) := by decide +kernel
theorem dX10_measure_105 : decode cX10_measure 105 = .ok (.iload_n 1, 1) := by decide +kernel
theorem dX10_measure_106 : decode cX10_measure 106 = .ok (.iaload, 1) := by decide +kernel
theorem dX10_measure_107 : decode cX10_measure 107 = .ok (.iastore, 1) := by decide +kernel
theorem dX10_measure_108 : decode cX10_measure 108 = .ok (.aload_n 0, 1) := by decide +kernel
theorem dX10_measure_109 : decode cX10_measure 109 = .ok (.getfield 62, 3) := by decide +kernel
theorem dX10_measure_112 : decode cX10_measure 112 = .ok (.bipush 8, 2) := by decide +kernel
theorem dX10_measure_114 : decode cX10_measure 114 = .ok (.aload_n 0, 1) := by decide +kernel
theorem dX10_measure_115 : decode cX10_measure 115 = .ok (.getfield 13, 3) := by decide +kernel
theorem dX10_measure_118 : decode cX10_measure 118 = .ok (.iload_n 1, 1) := by decide +kernel
theorem dX10_measure_119 : decode cX10_measure 119 = .ok (.iaload, 1) := by decide +kernel
theorem dX10_measure_120 : decode cX10_measure 120 = .ok (.imul, 1) := by decide +kernel
theorem dX10_measure_121 : decode cX10_measure 121 = .ok (.aload_n 0, 1) := by decide +kernel
theorem dX10_measure_122 : decode cX10_measure 122 = .ok (.getfield 7, 3) := by decide +kernel
theorem dX10_measure_125 : decode cX10_measure 125 = .ok (.iload_n 1, 1) := by decide +kernel
theorem dX10_measure_126 : decode cX10_measure 126 = .ok (.iaload, 1) := by decide +kernel
theorem dX10_measure_127 : decode cX10_measure 127 = .ok (.iadd, 1) := by decide +kernel
theorem dX10_measure_128 : decode cX10_measure 128 = .ok (.aload_n 0, 1) := by decide +kernel
theorem dX10_measure_129 : decode cX10_measure 129 = .ok (.getfield 16, 3) := by decide +kernel
theorem dX10_measure_132 : decode cX10_measure 132 = .ok (.iload_n 1, 1) := by decide +kernel
theorem dX10_measure_133 : decode cX10_measure 133 = .ok (.iaload, 1) := by decide +kernel
theorem dX10_measure_134 : decode cX10_measure 134 = .ok (.iastore, 1) := by decide +kernel
theorem dX10_measure_135 : decode cX10_measure 135 = .ok (.iinc 1 1, 3) := by decide +kernel
theorem dX10_measure_138 : decode cX10_measure 138 = .ok (.goto (-98), 3) := by decide +kernel
theorem dX10_measure_141 : decode cX10_measure 141 = .ok (.iconst 0, 1) := by decide +kernel
theorem dX10_measure_142 : decode cX10_measure 142 = .ok (.istore_n 1, 1) := by decide +kernel
theorem dX10_measure_143 : decode cX10_measure 143 = .ok (.iload_n 1, 1) := by decide +kernel
theorem dX10_measure_144 : decode cX10_measure 144 = .ok (.aload_n 0, 1) := by decide +kernel
theorem dX10_measure_145 : decode cX10_measure 145 = .ok (.getfield 104, 3) := by decide +kernel
theorem dX10_measure_148 : decode cX10_measure 148 = .ok (.if_icmp .ge 109, 3) := by decide +kernel
theorem dX10_measure_151 : decode cX10_measure 151 = .ok (.iconst 0, 1) := by decide +kernel
theorem dX10_measure_152 : decode cX10_measure 152 = .ok (.istore_n 2, 1) := by decide +kernel
theorem dX10_measure_153 : decode cX10_measure 153 = .ok (.iload_n 2, 1) := by decide +kernel
theorem dX10_measure_154 : decode cX10_measure 154 = .ok (.aload_n 0, 1) := by decide +kernel
theorem dX10_measure_155 : decode cX10_measure 155 = .ok (.getfield 104, 3) := by decide +kernel
theorem dX10_measure_158 : decode cX10_measure 158 = .ok (.if_icmp .ge 93, 3) := by decide +kernel
theorem dX10_measure_161 : decode cX10_measure 161 = .ok (.iconst 0, 1) := by decide +kernel
theorem dX10_measure_162 : decode cX10_measure 162 = .ok (.istore_n 3, 1) := by decide +kernel
theorem dX10_measure_163 : decode cX10_measure 163 = .ok (.iload_n 3, 1) := by decide +kernel
theorem dX10_measure_164 : decode cX10_measure 164 = .ok (.aload_n 0, 1) := by decide +kernel
theorem dX10_measure_165 : decode cX10_measure 165 = .ok (.getfield 104, 3) := by decide +kernel
theorem dX10_measure_168 : decode cX10_measure 168 = .ok (.if_icmp .ge 77, 3) := by decide +kernel
theorem dX10_measure_171 : decode cX10_measure 171 = .ok (.aload_n 0, 1) := by decide +kernel
theorem dX10_measure_172 : decode cX10_measure 172 = .ok (.getfield 62, 3) := by decide +kernel
theorem dX10_measure_175 : decode cX10_measure 175 = .ok (.bipush 8, 2) := by decide +kernel
theorem dX10_measure_177 : decode cX10_measure 177 = .ok (.iload_n 2, 1) := by decide +kernel
theorem dX10_measure_178 : decode cX10_measure 178 = .ok (.imul, 1) := by decide +kernel
theorem dX10_measure_179 : decode cX10_measure 179 = .ok (.iload_n 1, 1) := by decide +kernel
theorem dX10_measure_180 : decode cX10_measure 180 = .ok (.iadd, 1) := by decide +kernel
theorem dX10_measure_181 : decode cX10_measure 181 = .ok (.iaload, 1) := by decide +kernel
theorem dX10_measure_182 : decode cX10_measure 182 = .ok (.aload_n 0, 1) := by decide +kernel
theorem dX10_measure_183 : decode cX10_measure 183 = .ok (.getfield 62, 3) := by decide +kernel
theorem dX10_measure_186 : decode cX10_measure 186 = .ok (.bipush 8, 2) := by decide +kernel
theorem dX10_measure_188 : decode cX10_measure 188 = .ok (.iload_n 1, 1) := by decide +kernel
theorem dX10_measure_189 : decode cX10_measure 189 = .ok (.imul, 1) := by decide +kernel
theorem dX10_measure_190 : decode cX10_measure 190 = .ok (.iload_n 3, 1) := by decide +kernel
theorem dX10_measure_191 : decode cX10_measure 191 = .ok (.iadd, 1) := by decide +kernel
theorem dX10_measure_192 : decode cX10_measure 192 = .ok (.iaload, 1) := by decide +kernel
theorem dX10_measure_193 : decode cX10_measure 193 = .ok (.iadd, 1) := by decide +kernel
theorem dX10_measure_194 : decode cX10_measure 194 = .ok (.istore 4, 2) := by decide +kernel
theorem dX10_measure_196 : decode cX10_measure 196 = .ok (.aload_n 0, 1) := by decide +kernel
theorem dX10_measure_197 : decode cX10_measure 197 = .ok (.getfield 62, 3) := by decide +kernel
theorem dX10_measure_200 : decode cX10_measure 200 = .ok (.bipush 8, 2) := by decide +kernel
theorem dX10_measure_202 : decode cX10_measure 202 = .ok (.iload_n 2, 1) := by decide +kernel
theorem dX10_measure_203 : decode cX10_measure 203 = .ok (.imul, 1) := by decide +kernel
theorem dX10_measure_204 : decode cX10_measure 204 = .ok (.iload_n 3, 1) := by decide +kernel
theorem dX10_measure_205 : decode cX10_measure 205 = .ok (.iadd, 1) := by decide +kernel
theorem dX10_measure_206 : decode cX10_measure 206 = .ok (.iload 4, 2) := by decide +kernel
theorem dX10_measure_208 : decode cX10_measure 208 = .ok (.aload_n 0, 1) := by decide +kernel
theorem dX10_measure_209 : decode cX10_measure 209 = .ok (.getfield 62, 3) := by decide +kernel
theorem dX10_measure_212 : decode cX10_measure 212 = .ok (.bipush 8, 2) := by decide +kernel
theorem dX10_measure_214 : decode cX10_measure 214 = .ok (.iload_n 2, 1) := by decide +kernel
theorem dX10_measure_215 : decode cX10_measure 215 = .ok (.imul, 1) := by decide +kernel
theorem dX10_measure_216 : decode cX10_measure 216 = .ok (.iload_n 3, 1) := by decide +kernel
theorem dX10_measure_217 : decode cX10_measure 217 = .ok (.iadd, 1) := by decide +kernel
theorem dX10_measure_218 : decode cX10_measure 218 = .ok (.iaload, 1) := by decide +kernel
theorem dX10_measure_219 : decode cX10_measure 219 = .ok (.if_icmp .ge 8, 3) := by decide +kernel
theorem dX10_measure_222 : decode cX10_measure 222 = .ok (.iload 4, 2) := by decide +kernel
theorem dX10_measure_224 : decode cX10_measure 224 = .ok (.goto 14, 3) := by decide +kernel
theorem dX10_measure_227 : decode cX10_measure 227 = .ok (.aload_n 0, 1) := by decide +kernel
theorem dX10_measure_228 : decode cX10_measure 228 = .ok (.getfield 62, 3) := by decide +kernel
theorem dX10_measure_231 : decode cX10_measure 231 = .ok (.bipush 8, 2) := by decide +kernel
theorem dX10_measure_233 : decode cX10_measure 233 = .ok (.iload_n 2, 1) := by decide +kernel
theorem dX10_measure_234 : decode cX10_measure 234 = .ok (.imul, 1) := by decide +kernel
theorem dX10_measure_235 : decode cX10_measure 235 = .ok (.iload_n 3, 1) := by decide +kernel
theorem dX10_measure_236 : decode cX10_measure 236 = .ok (.iadd, 1) := by decide +kernel
theorem dX10_measure_237 : decode cX10_measure 237 = .ok (.iaload, 1) := by decide +kernel
theorem dX10_measure_238 : decode cX10_measure 238 = .ok (.iastore, 1) := by decide +kernel
theorem dX10_measure_239 : decode cX10_measure 239 = .ok (.iinc 3 1, 3) := by decide +kernel
theorem dX10_measure_242 : decode cX10_measure 242 = .ok (.goto (-79), 3) := by decide +kernel
theorem dX10_measure_245 : decode cX10_measure 245 = .ok (.iinc 2 1, 3) := by decide +kernel
theorem dX10_measure_248 : decode cX10_measure 248 = .ok (.goto (-95), 3) := by decide +kernel
theorem dX10_measure_251 : decode cX10_measure 251 = .ok (.iinc 1 1, 3) := by decide +kernel
theorem dX10_measure_254 : decode cX10_measure 254 = .ok (.goto (-111), 3) := by decide +kernel
theorem dX10_measure_257 : decode cX10_measure 257 = .ok (.return_, 1) := by decide +kernel
theorem dX10_walk_0 : decode cX10_walk 0 = .ok (.aload_n 0, 1) := by decide +kernel
theorem dX10_walk_1 : decode cX10_walk 1 = .ok (.iload_n 1, 1) := by decide +kernel
theorem dX10_walk_2 : decode cX10_walk 2 = .ok (.invokevirtual 110, 3) := by decide +kernel
theorem dX10_walk_5 : decode cX10_walk 5 = .ok (.ifCond .eq 11, 3) := by decide +kernel
theorem dX10_walk_8 : decode cX10_walk 8 = .ok (.aload_n 0, 1) := by decide +kernel
theorem dX10_walk_9 : decode cX10_walk 9 = .ok (.iload_n 2, 1) := by decide +kernel
theorem dX10_walk_10 : decode cX10_walk 10 = .ok (.invokevirtual 110, 3) := by decide +kernel
theorem dX10_walk_13 : decode cX10_walk 13 = .ok (.ifCond .ne 5, 3) := by decide +kernel
theorem dX10_walk_16 : decode cX10_walk 16 = .ok (.iconst (-1), 1) := by decide +kernel
theorem dX10_walk_17 : decode cX10_walk 17 = .ok (.ireturn, 1) := by decide +kernel
theorem dX10_walk_18 : decode cX10_walk 18 = .ok (.aload_n 0, 1) := by decide +kernel
theorem dX10_walk_19 : decode cX10_walk 19 = .ok (.invokevirtual 280, 3) := by decide +kernel
theorem dX10_walk_22 : decode cX10_walk 22 = .ok (.aload_n 0, 1) := by decide +kernel
theorem dX10_walk_23 : decode cX10_walk 23 = .ok (.getfield 62, 3) := by decide +kernel
theorem dX10_walk_26 : decode cX10_walk 26 = .ok (.bipush 8, 2) := by decide +kernel
theorem dX10_walk_28 : decode cX10_walk 28 = .ok (.iload_n 1, 1) := by decide +kernel
theorem dX10_walk_29 : decode cX10_walk 29 = .ok (.imul, 1) := by decide +kernel
theorem dX10_walk_30 : decode cX10_walk 30 = .ok (.iload_n 2, 1) := by decide +kernel
theorem dX10_walk_31 : decode cX10_walk 31 = .ok (.iadd, 1) := by decide +kernel
theorem dX10_walk_32 : decode cX10_walk 32 = .ok (.iaload, 1) := by decide +kernel
theorem dX10_walk_33 : decode cX10_walk 33 = .ok (.ldc_w 267, 3) := by decide +kernel
theorem dX10_walk_36 : decode cX10_walk 36 = .ok (.if_icmp .ge 17, 3) := by decide +kernel
theorem dX10_walk_39 : decode cX10_walk 39 = .ok (.aload_n 0, 1) := by decide +kernel
theorem dX10_walk_40 : decode cX10_walk 40 = .ok (.getfield 62, 3) := by decide +kernel
theorem dX10_walk_43 : decode cX10_walk 43 = .ok (.bipush 8, 2) := by decide +kernel
theorem dX10_walk_45 : decode cX10_walk 45 = .ok (.iload_n 1, 1) := by decide +kernel
theorem dX10_walk_46 : decode cX10_walk 46 = .ok (.imul, 1) := by decide +kernel
theorem dX10_walk_47 : decode cX10_walk 47 = .ok (.iload_n 2, 1) := by decide +kernel
theorem dX10_walk_48 : decode cX10_walk 48 = .ok (.iadd, 1) := by decide +kernel
theorem dX10_walk_49 : decode cX10_walk 49 = .ok (.iaload, 1) := by decide +kernel
theorem dX10_walk_50 : decode cX10_walk 50 = .ok (.goto 4, 3) := by decide +kernel
theorem dX10_walk_53 : decode cX10_walk 53 = .ok (.iconst (-1), 1) := by decide +kernel
theorem dX10_walk_54 : decode cX10_walk 54 = .ok (.ireturn, 1) := by decide +kernel
theorem dX10_sign_0 : decode cX10_sign 0 = .ok (.aload_n 0, 1) := by decide +kernel
theorem dX10_sign_1 : decode cX10_sign 1 = .ok (.iload_n 1, 1) := by decide +kernel
theorem dX10_sign_2 : decode cX10_sign 2 = .ok (.invokevirtual 110, 3) := by decide +kernel
theorem dX10_sign_5 : decode cX10_sign 5 = .ok (.ifCond .eq 23, 3) := by decide +kernel
theorem dX10_sign_8 : decode cX10_sign 8 = .ok (.iload_n 2, 1) := by decide +kernel
theorem dX10_sign_9 : decode cX10_sign 9 = .ok (.iconst 1, 1) := by decide +kernel
theorem dX10_sign_10 : decode cX10_sign 10 = .ok (.if_icmp .lt 18, 3) := by decide +kernel
theorem dX10_sign_13 : decode cX10_sign 13 = .ok (.iload_n 2, 1) := by decide +kernel
theorem dX10_sign_14 : decode cX10_sign 14 = .ok (.bipush 60, 2) := by decide +kernel
theorem dX10_sign_16 : decode cX10_sign 16 = .ok (.if_icmp .gt 12, 3) := by decide +kernel
theorem dX10_sign_19 : decode cX10_sign 19 = .ok (.aload_n 0, 1) := by decide +kernel
theorem dX10_sign_20 : decode cX10_sign 20 = .ok (.getfield 283, 3) := by decide +kernel
theorem dX10_sign_23 : decode cX10_sign 23 = .ok (.bipush 8, 2) := by decide +kernel
theorem dX10_sign_25 : decode cX10_sign 25 = .ok (.if_icmp .ne 5, 3) := by decide +kernel
theorem dX10_sign_28 : decode cX10_sign 28 = .ok (.iconst (-1), 1) := by decide +kernel
theorem dX10_sign_29 : decode cX10_sign 29 = .ok (.ireturn, 1) := by decide +kernel
theorem dX10_sign_30 : decode cX10_sign 30 = .ok (.aload_n 0, 1) := by decide +kernel
theorem dX10_sign_31 : decode cX10_sign 31 = .ok (.getfield 65, 3) := by decide +kernel
theorem dX10_sign_34 : decode cX10_sign 34 = .ok (.aload_n 0, 1) := by decide +kernel
theorem dX10_sign_35 : decode cX10_sign 35 = .ok (.getfield 283, 3) := by decide +kernel
theorem dX10_sign_38 : decode cX10_sign 38 = .ok (.iload_n 1, 1) := by decide +kernel
theorem dX10_sign_39 : decode cX10_sign 39 = .ok (.iastore, 1) := by decide +kernel
theorem dX10_sign_40 : decode cX10_sign 40 = .ok (.aload_n 0, 1) := by decide +kernel
theorem dX10_sign_41 : decode cX10_sign 41 = .ok (.getfield 68, 3) := by decide +kernel
theorem dX10_sign_44 : decode cX10_sign 44 = .ok (.aload_n 0, 1) := by decide +kernel
theorem dX10_sign_45 : decode cX10_sign 45 = .ok (.getfield 283, 3) := by decide +kernel
theorem dX10_sign_48 : decode cX10_sign 48 = .ok (.iload_n 2, 1) := by decide +kernel
theorem dX10_sign_49 : decode cX10_sign 49 = .ok (.iastore, 1) := by decide +kernel
theorem dX10_sign_50 : decode cX10_sign 50 = .ok (.aload_n 0, 1) := by decide +kernel
theorem dX10_sign_51 : decode cX10_sign 51 = .ok (.dup, 1) := by decide +kernel
theorem dX10_sign_52 : decode cX10_sign 52 = .ok (.getfield 283, 3) := by decide +kernel
theorem dX10_sign_55 : decode cX10_sign 55 = .ok (.iconst 1, 1) := by decide +kernel
theorem dX10_sign_56 : decode cX10_sign 56 = .ok (.iadd, 1) := by decide +kernel
theorem dX10_sign_57 : decode cX10_sign 57 = .ok (.putfield 283, 3) := by decide +kernel
theorem dX10_sign_60 : decode cX10_sign 60 = .ok (.aload_n 0, 1) := by decide +kernel
theorem dX10_sign_61 : decode cX10_sign 61 = .ok (.getfield 283, 3) := by decide +kernel
theorem dX10_sign_64 : decode cX10_sign 64 = .ok (.iconst 1, 1) := by decide +kernel
theorem dX10_sign_65 : decode cX10_sign 65 = .ok (.isub, 1) := by decide +kernel
theorem dX10_sign_66 : decode cX10_sign 66 = .ok (.ireturn, 1) := by decide +kernel
theorem dX10_crew_0 : decode cX10_crew 0 = .ok (.aload_n 0, 1) := by decide +kernel
theorem dX10_crew_1 : decode cX10_crew 1 = .ok (.iload_n 1, 1) := by decide +kernel
theorem dX10_crew_2 : decode cX10_crew 2 = .ok (.invokevirtual 110, 3) := by decide +kernel
theorem dX10_crew_5 : decode cX10_crew 5 = .ok (.ifCond .eq 11, 3) := by decide +kernel
theorem dX10_crew_8 : decode cX10_crew 8 = .ok (.aload_n 0, 1) := by decide +kernel
theorem dX10_crew_9 : decode cX10_crew 9 = .ok (.getfield 286, 3) := by decide +kernel
theorem dX10_crew_12 : decode cX10_crew 12 = .ok (.iconst 3, 1) := by decide +kernel
theorem dX10_crew_13 : decode cX10_crew 13 = .ok (.if_icmp .ne 5, 3) := by decide +kernel
theorem dX10_crew_16 : decode cX10_crew 16 = .ok (.iconst (-1), 1) := by decide +kernel
theorem dX10_crew_17 : decode cX10_crew 17 = .ok (.ireturn, 1) := by decide +kernel
theorem dX10_crew_18 : decode cX10_crew 18 = .ok (.aload_n 0, 1) := by decide +kernel
theorem dX10_crew_19 : decode cX10_crew 19 = .ok (.getfield 71, 3) := by decide +kernel
theorem dX10_crew_22 : decode cX10_crew 22 = .ok (.aload_n 0, 1) := by decide +kernel
theorem dX10_crew_23 : decode cX10_crew 23 = .ok (.getfield 286, 3) := by decide +kernel
theorem dX10_crew_26 : decode cX10_crew 26 = .ok (.iload_n 1, 1) := by decide +kernel
theorem dX10_crew_27 : decode cX10_crew 27 = .ok (.iastore, 1) := by decide +kernel
theorem dX10_crew_28 : decode cX10_crew 28 = .ok (.aload_n 0, 1) := by decide +kernel
theorem dX10_crew_29 : decode cX10_crew 29 = .ok (.dup, 1) := by decide +kernel
theorem dX10_crew_30 : decode cX10_crew 30 = .ok (.getfield 286, 3) := by decide +kernel
theorem dX10_crew_33 : decode cX10_crew 33 = .ok (.iconst 1, 1) := by decide +kernel
theorem dX10_crew_34 : decode cX10_crew 34 = .ok (.iadd, 1) := by decide +kernel
theorem dX10_crew_35 : decode cX10_crew 35 = .ok (.putfield 286, 3) := by decide +kernel
theorem dX10_crew_38 : decode cX10_crew 38 = .ok (.aload_n 0, 1) := by decide +kernel
theorem dX10_crew_39 : decode cX10_crew 39 = .ok (.getfield 286, 3) := by decide +kernel
theorem dX10_crew_42 : decode cX10_crew 42 = .ok (.iconst 1, 1) := by decide +kernel
theorem dX10_crew_43 : decode cX10_crew 43 = .ok (.isub, 1) := by decide +kernel
theorem dX10_crew_44 : decode cX10_crew 44 = .ok (.ireturn, 1) := by decide +kernel
theorem dX10_spotOf_0 : decode cX10_spotOf 0 = .ok (.bipush 8, 2) := by decide +kernel
theorem dX10_spotOf_2 : decode cX10_spotOf 2 = .ok (.iload_n 0, 1) := by decide +kernel
theorem dX10_spotOf_3 : decode cX10_spotOf 3 = .ok (.imul, 1) := by decide +kernel
theorem dX10_spotOf_4 : decode cX10_spotOf 4 = .ok (.iload_n 1, 1) := by decide +kernel
theorem dX10_spotOf_5 : decode cX10_spotOf 5 = .ok (.iadd, 1) := by decide +kernel
theorem dX10_spotOf_6 : decode cX10_spotOf 6 = .ok (.ireturn, 1) := by decide +kernel
theorem dX10_reckon_0 : decode cX10_reckon 0 = .ok (.aload_n 0, 1) := by decide +kernel
theorem dX10_reckon_1 : decode cX10_reckon 1 = .ok (.invokevirtual 280, 3) := by decide +kernel
theorem dX10_reckon_4 : decode cX10_reckon 4 = .ok (.iconst 0, 1) := by decide +kernel
theorem dX10_reckon_5 : decode cX10_reckon 5 = .ok (.istore_n 1, 1) := by decide +kernel
theorem dX10_reckon_6 : decode cX10_reckon 6 = .ok (.iload_n 1, 1) := by decide +kernel
theorem dX10_reckon_7 : decode cX10_reckon 7 = .ok (.iconst 1, 1) := by decide +kernel
theorem dX10_reckon_8 : decode cX10_reckon 8 = .ok (.aload_n 0, 1) := by decide +kernel
theorem dX10_reckon_9 : decode cX10_reckon 9 = .ok (.getfield 283, 3) := by decide +kernel
theorem dX10_reckon_12 : decode cX10_reckon 12 = .ok (.ishl, 1) := by decide +kernel
theorem dX10_reckon_13 : decode cX10_reckon 13 = .ok (.if_icmp .ge 140, 3) := by decide +kernel
theorem dX10_reckon_16 : decode cX10_reckon 16 = .ok (.iconst 0, 1) := by decide +kernel
theorem dX10_reckon_17 : decode cX10_reckon 17 = .ok (.istore_n 2, 1) := by decide +kernel
theorem dX10_reckon_18 : decode cX10_reckon 18 = .ok (.iload_n 2, 1) := by decide +kernel
theorem dX10_reckon_19 : decode cX10_reckon 19 = .ok (.aload_n 0, 1) := by decide +kernel
theorem dX10_reckon_20 : decode cX10_reckon 20 = .ok (.getfield 104, 3) := by decide +kernel
theorem dX10_reckon_23 : decode cX10_reckon 23 = .ok (.if_icmp .ge 124, 3) := by decide +kernel
theorem dX10_reckon_26 : decode cX10_reckon 26 = .ok (.iload_n 1, 1) := by decide +kernel
theorem dX10_reckon_27 : decode cX10_reckon 27 = .ok (.ifCond .ne 7, 3) := by decide +kernel
theorem dX10_reckon_30 : decode cX10_reckon 30 = .ok (.iconst 0, 1) := by decide +kernel
theorem dX10_reckon_31 : decode cX10_reckon 31 = .ok (.goto 6, 3) := by decide +kernel
theorem dX10_reckon_34 : decode cX10_reckon 34 = .ok (.ldc_w 267, 3) := by decide +kernel
theorem dX10_reckon_37 : decode cX10_reckon 37 = .ok (.istore_n 3, 1) := by decide +kernel
theorem dX10_reckon_38 : decode cX10_reckon 38 = .ok (.iconst 0, 1) := by decide +kernel
theorem dX10_reckon_39 : decode cX10_reckon 39 = .ok (.istore 4, 2) := by decide +kernel
theorem dX10_reckon_41 : decode cX10_reckon 41 = .ok (.iload 4, 2) := by decide +kernel
theorem dX10_reckon_43 : decode cX10_reckon 43 = .ok (.aload_n 0, 1) := by decide +kernel
theorem dX10_reckon_44 : decode cX10_reckon 44 = .ok (.getfield 283, 3) := by decide +kernel
theorem dX10_reckon_47 : decode cX10_reckon 47 = .ok (.if_icmp .ge 83, 3) := by decide +kernel
theorem dX10_reckon_50 : decode cX10_reckon 50 = .ok (.iload_n 1, 1) := by decide +kernel
theorem dX10_reckon_51 : decode cX10_reckon 51 = .ok (.iload 4, 2) := by decide +kernel
theorem dX10_reckon_53 : decode cX10_reckon 53 = .ok (.ishr, 1) := by decide +kernel
theorem dX10_reckon_54 : decode cX10_reckon 54 = .ok (.iconst 1, 1) := by decide +kernel
theorem dX10_reckon_55 : decode cX10_reckon 55 = .ok (.iand, 1) := by decide +kernel
theorem dX10_reckon_56 : decode cX10_reckon 56 = .ok (.ifCond .ne 6, 3) := by decide +kernel
theorem dX10_reckon_59 : decode cX10_reckon 59 = .ok (.goto 65, 3) := by decide +kernel
theorem dX10_reckon_62 : decode cX10_reckon 62 = .ok (.aload_n 0, 1) := by decide +kernel
theorem dX10_reckon_63 : decode cX10_reckon 63 = .ok (.getfield 62, 3) := by decide +kernel
theorem dX10_reckon_66 : decode cX10_reckon 66 = .ok (.bipush 8, 2) := by decide +kernel
theorem dX10_reckon_68 : decode cX10_reckon 68 = .ok (.iload_n 2, 1) := by decide +kernel
theorem dX10_reckon_69 : decode cX10_reckon 69 = .ok (.imul, 1) := by decide +kernel
theorem dX10_reckon_70 : decode cX10_reckon 70 = .ok (.aload_n 0, 1) := by decide +kernel
theorem dX10_reckon_71 : decode cX10_reckon 71 = .ok (.getfield 65, 3) := by decide +kernel
theorem dX10_reckon_74 : decode cX10_reckon 74 = .ok (.iload 4, 2) := by decide +kernel
theorem dX10_reckon_76 : decode cX10_reckon 76 = .ok (.iaload, 1) := by decide +kernel
theorem dX10_reckon_77 : decode cX10_reckon 77 = .ok (.iadd, 1) := by decide +kernel
theorem dX10_reckon_78 : decode cX10_reckon 78 = .ok (.iaload, 1) := by decide +kernel
theorem dX10_reckon_79 : decode cX10_reckon 79 = .ok (.aload_n 0, 1) := by decide +kernel
theorem dX10_reckon_80 : decode cX10_reckon 80 = .ok (.getfield 68, 3) := by decide +kernel
theorem dX10_reckon_83 : decode cX10_reckon 83 = .ok (.iload 4, 2) := by decide +kernel
theorem dX10_reckon_85 : decode cX10_reckon 85 = .ok (.iaload, 1) := by decide +kernel
theorem dX10_reckon_86 : decode cX10_reckon 86 = .ok (.iadd, 1) := by decide +kernel
theorem dX10_reckon_87 : decode cX10_reckon 87 = .ok (.aload_n 0, 1) := by decide +kernel
theorem dX10_reckon_88 : decode cX10_reckon 88 = .ok (.getfield 74, 3) := by decide +kernel
theorem dX10_reckon_91 : decode cX10_reckon 91 = .ok (.iload_n 1, 1) := by decide +kernel
theorem dX10_reckon_92 : decode cX10_reckon 92 = .ok (.iconst 1, 1) := by decide +kernel
theorem dX10_reckon_93 : decode cX10_reckon 93 = .ok (.iload 4, 2) := by decide +kernel
theorem dX10_reckon_95 : decode cX10_reckon 95 = .ok (.ishl, 1) := by decide +kernel
theorem dX10_reckon_96 : decode cX10_reckon 96 = .ok (.ixor, 1) := by decide +kernel
theorem dX10_reckon_97 : decode cX10_reckon 97 = .ok (.aload_n 0, 1) := by decide +kernel
theorem dX10_reckon_98 : decode cX10_reckon 98 = .ok (.getfield 65, 3) := by decide +kernel
theorem dX10_reckon_101 : decode cX10_reckon 101 = .ok (.iload 4, 2) := by decide +kernel
theorem dX10_reckon_103 : decode cX10_reckon 103 = .ok (.iaload, 1) := by decide +kernel
theorem dX10_reckon_104 : decode cX10_reckon 104 = .ok (.invokestatic 289, 3) := by decide +kernel
theorem dX10_reckon_107 : decode cX10_reckon 107 = .ok (.iaload, 1) := by decide +kernel
theorem dX10_reckon_108 : decode cX10_reckon 108 = .ok (.iadd, 1) := by decide +kernel
theorem dX10_reckon_109 : decode cX10_reckon 109 = .ok (.istore 5, 2) := by decide +kernel
theorem dX10_reckon_111 : decode cX10_reckon 111 = .ok (.iload 5, 2) := by decide +kernel
theorem dX10_reckon_113 : decode cX10_reckon 113 = .ok (.iload_n 3, 1) := by decide +kernel
theorem dX10_reckon_114 : decode cX10_reckon 114 = .ok (.if_icmp .ge 8, 3) := by decide +kernel
theorem dX10_reckon_117 : decode cX10_reckon 117 = .ok (.iload 5, 2) := by decide +kernel
theorem dX10_reckon_119 : decode cX10_reckon 119 = .ok (.goto 4, 3) := by decide +kernel
theorem dX10_reckon_122 : decode cX10_reckon 122 = .ok (.iload_n 3, 1) := by decide +kernel
theorem dX10_reckon_123 : decode cX10_reckon 123 = .ok (.istore_n 3, 1) := by decide +kernel
theorem dX10_reckon_124 : decode cX10_reckon 124 = .ok (.iinc 4 1, 3) := by decide +kernel
theorem dX10_reckon_127 : decode cX10_reckon 127 = .ok (.goto (-86), 3) := by decide +kernel
theorem dX10_reckon_130 : decode cX10_reckon 130 = .ok (.aload_n 0, 1) := by decide +kernel
theorem dX10_reckon_131 : decode cX10_reckon 131 = .ok (.getfield 74, 3) := by decide +kernel
theorem dX10_reckon_134 : decode cX10_reckon 134 = .ok (.iload_n 1, 1) := by decide +kernel
theorem dX10_reckon_135 : decode cX10_reckon 135 = .ok (.iload_n 2, 1) := by decide +kernel
theorem dX10_reckon_136 : decode cX10_reckon 136 = .ok (.invokestatic 289, 3) := by decide +kernel
theorem dX10_reckon_139 : decode cX10_reckon 139 = .ok (.iload_n 3, 1) := by decide +kernel
theorem dX10_reckon_140 : decode cX10_reckon 140 = .ok (.iastore, 1) := by decide +kernel
theorem dX10_reckon_141 : decode cX10_reckon 141 = .ok (.iinc 2 1, 3) := by decide +kernel
theorem dX10_reckon_144 : decode cX10_reckon 144 = .ok (.goto (-126), 3) := by decide +kernel
theorem dX10_reckon_147 : decode cX10_reckon 147 = .ok (.iinc 1 1, 3) := by decide +kernel
theorem dX10_reckon_150 : decode cX10_reckon 150 = .ok (.goto (-144), 3) := by decide +kernel
theorem dX10_reckon_153 : decode cX10_reckon 153 = .ok (.return_, 1) := by decide +kernel
theorem dX10_setOf_0 : decode cX10_setOf 0 = .ok (.iconst 0, 1) := by decide +kernel
theorem dX10_setOf_1 : decode cX10_setOf 1 = .ok (.istore_n 2, 1) := by decide +kernel
theorem dX10_setOf_2 : decode cX10_setOf 2 = .ok (.iconst 0, 1) := by decide +kernel
theorem dX10_setOf_3 : decode cX10_setOf 3 = .ok (.istore_n 3, 1) := by decide +kernel
theorem dX10_setOf_4 : decode cX10_setOf 4 = .ok (.iload_n 3, 1) := by decide +kernel
theorem dX10_setOf_5 : decode cX10_setOf 5 = .ok (.aload_n 0, 1) := by decide +kernel
theorem dX10_setOf_6 : decode cX10_setOf 6 = .ok (.getfield 283, 3) := by decide +kernel
theorem dX10_setOf_9 : decode cX10_setOf 9 = .ok (.if_icmp .ge 29, 3) := by decide +kernel
theorem dX10_setOf_12 : decode cX10_setOf 12 = .ok (.iload_n 2, 1) := by decide +kernel
theorem dX10_setOf_13 : decode cX10_setOf 13 = .ok (.aload_n 0, 1) := by decide +kernel
theorem dX10_setOf_14 : decode cX10_setOf 14 = .ok (.getfield 77, 3) := by decide +kernel
theorem dX10_setOf_17 : decode cX10_setOf 17 = .ok (.iload_n 3, 1) := by decide +kernel
theorem dX10_setOf_18 : decode cX10_setOf 18 = .ok (.iaload, 1) := by decide +kernel
theorem dX10_setOf_19 : decode cX10_setOf 19 = .ok (.iload_n 1, 1) := by decide +kernel
theorem dX10_setOf_20 : decode cX10_setOf 20 = .ok (.if_icmp .ne 9, 3) := by decide +kernel
theorem dX10_setOf_23 : decode cX10_setOf 23 = .ok (.iconst 1, 1) := by decide +kernel
theorem dX10_setOf_24 : decode cX10_setOf 24 = .ok (.iload_n 3, 1) := by decide +kernel
theorem dX10_setOf_25 : decode cX10_setOf 25 = .ok (.ishl, 1) := by decide +kernel
theorem dX10_setOf_26 : decode cX10_setOf 26 = .ok (.goto 4, 3) := by decide +kernel
theorem dX10_setOf_29 : decode cX10_setOf 29 = .ok (.iconst 0, 1) := by decide +kernel
theorem dX10_setOf_30 : decode cX10_setOf 30 = .ok (.ior, 1) := by decide +kernel
theorem dX10_setOf_31 : decode cX10_setOf 31 = .ok (.istore_n 2, 1) := by decide +kernel
theorem dX10_setOf_32 : decode cX10_setOf 32 = .ok (.iinc 3 1, 3) := by decide +kernel
theorem dX10_setOf_35 : decode cX10_setOf 35 = .ok (.goto (-31), 3) := by decide +kernel
theorem dX10_setOf_38 : decode cX10_setOf 38 = .ok (.iload_n 2, 1) := by decide +kernel
theorem dX10_setOf_39 : decode cX10_setOf 39 = .ok (.ireturn, 1) := by decide +kernel
theorem dX10_part_0 : decode cX10_part 0 = .ok (.aload_n 0, 1) := by decide +kernel
theorem dX10_part_1 : decode cX10_part 1 = .ok (.getfield 283, 3) := by decide +kernel
theorem dX10_part_4 : decode cX10_part 4 = .ok (.ifCond .ne 5, 3) := by decide +kernel
theorem dX10_part_7 : decode cX10_part 7 = .ok (.iconst 0, 1) := by decide +kernel
theorem dX10_part_8 : decode cX10_part 8 = .ok (.ireturn, 1) := by decide +kernel
theorem dX10_part_9 : decode cX10_part 9 = .ok (.aload_n 0, 1) := by decide +kernel
theorem dX10_part_10 : decode cX10_part 10 = .ok (.getfield 286, 3) := by decide +kernel
theorem dX10_part_13 : decode cX10_part 13 = .ok (.ifCond .ne 7, 3) := by decide +kernel
theorem dX10_part_16 : decode cX10_part 16 = .ok (.ldc_w 267, 3) := by decide +kernel
theorem dX10_part_19 : decode cX10_part 19 = .ok (.ireturn, 1) := by decide +kernel
theorem dX10_part_20 : decode cX10_part 20 = .ok (.aload_n 0, 1) := by decide +kernel
theorem dX10_part_21 : decode cX10_part 21 = .ok (.invokevirtual 292, 3) := by decide +kernel
theorem dX10_part_24 : decode cX10_part 24 = .ok (.ldc_w 267, 3) := by decide +kernel
theorem dX10_part_27 : decode cX10_part 27 = .ok (.istore_n 1, 1) := by decide +kernel
theorem dX10_part_28 : decode cX10_part 28 = .ok (.iconst 0, 1) := by decide +kernel
theorem dX10_part_29 : decode cX10_part 29 = .ok (.istore_n 2, 1) := by decide +kernel
theorem dX10_part_30 : decode cX10_part 30 = .ok (.iload_n 2, 1) := by decide +kernel
theorem dX10_part_31 : decode cX10_part 31 = .ok (.aload_n 0, 1) := by decide +kernel
theorem dX10_part_32 : decode cX10_part 32 = .ok (.getfield 283, 3) := by decide +kernel
theorem dX10_part_35 : decode cX10_part 35 = .ok (.if_icmp .ge 16, 3) := by decide +kernel
theorem dX10_part_38 : decode cX10_part 38 = .ok (.aload_n 0, 1) := by decide +kernel
theorem dX10_part_39 : decode cX10_part 39 = .ok (.getfield 77, 3) := by decide +kernel
theorem dX10_part_42 : decode cX10_part 42 = .ok (.iload_n 2, 1) := by decide +kernel
theorem dX10_part_43 : decode cX10_part 43 = .ok (.iconst 0, 1) := by decide +kernel
theorem dX10_part_44 : decode cX10_part 44 = .ok (.iastore, 1) := by decide +kernel
theorem dX10_part_45 : decode cX10_part 45 = .ok (.iinc 2 1, 3) := by decide +kernel
theorem dX10_part_48 : decode cX10_part 48 = .ok (.goto (-18), 3) := by decide +kernel
theorem dX10_part_51 : decode cX10_part 51 = .ok (.iconst 1, 1) := by decide +kernel
theorem dX10_part_52 : decode cX10_part 52 = .ok (.istore_n 2, 1) := by decide +kernel
theorem dX10_part_53 : decode cX10_part 53 = .ok (.iload_n 2, 1) := by decide +kernel
theorem dX10_part_54 : decode cX10_part 54 = .ok (.ifCond .eq 170, 3) := by decide +kernel
theorem dX10_part_57 : decode cX10_part 57 = .ok (.iconst 0, 1) := by decide +kernel
theorem dX10_part_58 : decode cX10_part 58 = .ok (.istore_n 3, 1) := by decide +kernel
theorem dX10_part_59 : decode cX10_part 59 = .ok (.iconst 0, 1) := by decide +kernel
theorem dX10_part_60 : decode cX10_part 60 = .ok (.istore 4, 2) := by decide +kernel
theorem dX10_part_62 : decode cX10_part 62 = .ok (.iload 4, 2) := by decide +kernel
theorem dX10_part_64 : decode cX10_part 64 = .ok (.aload_n 0, 1) := by decide +kernel
theorem dX10_part_65 : decode cX10_part 65 = .ok (.getfield 286, 3) := by decide +kernel
theorem dX10_part_68 : decode cX10_part 68 = .ok (.if_icmp .ge 45, 3) := by decide +kernel
theorem dX10_part_71 : decode cX10_part 71 = .ok (.aload_n 0, 1) := by decide +kernel
theorem dX10_part_72 : decode cX10_part 72 = .ok (.getfield 74, 3) := by decide +kernel
theorem dX10_part_75 : decode cX10_part 75 = .ok (.aload_n 0, 1) := by decide +kernel
theorem dX10_part_76 : decode cX10_part 76 = .ok (.iload 4, 2) := by decide +kernel
theorem dX10_part_78 : decode cX10_part 78 = .ok (.invokevirtual 295, 3) := by decide +kernel
theorem dX10_part_81 : decode cX10_part 81 = .ok (.aload_n 0, 1) := by decide +kernel
theorem dX10_part_82 : decode cX10_part 82 = .ok (.getfield 71, 3) := by decide +kernel
theorem dX10_part_85 : decode cX10_part 85 = .ok (.iload 4, 2) := by decide +kernel
theorem dX10_part_87 : decode cX10_part 87 = .ok (.iaload, 1) := by decide +kernel
theorem dX10_part_88 : decode cX10_part 88 = .ok (.invokestatic 289, 3) := by decide +kernel
theorem dX10_part_91 : decode cX10_part 91 = .ok (.iaload, 1) := by decide +kernel
theorem dX10_part_92 : decode cX10_part 92 = .ok (.istore 5, 2) := by decide +kernel
theorem dX10_part_94 : decode cX10_part 94 = .ok (.iload 5, 2) := by decide +kernel
theorem dX10_part_96 : decode cX10_part 96 = .ok (.iload_n 3, 1) := by decide +kernel
theorem dX10_part_97 : decode cX10_part 97 = .ok (.if_icmp .le 8, 3) := by decide +kernel
theorem dX10_part_100 : decode cX10_part 100 = .ok (.iload 5, 2) := by decide +kernel
theorem dX10_part_102 : decode cX10_part 102 = .ok (.goto 4, 3) := by decide +kernel
theorem dX10_part_105 : decode cX10_part 105 = .ok (.iload_n 3, 1) := by decide +kernel
theorem dX10_part_106 : decode cX10_part 106 = .ok (.istore_n 3, 1) := by decide +kernel
theorem dX10_part_107 : decode cX10_part 107 = .ok (.iinc 4 1, 3) := by decide +kernel
theorem dX10_part_110 : decode cX10_part 110 = .ok (.goto (-48), 3) := by decide +kernel
theorem dX10_part_113 : decode cX10_part 113 = .ok (.iload_n 3, 1) := by decide +kernel
theorem dX10_part_114 : decode cX10_part 114 = .ok (.iload_n 1, 1) := by decide +kernel
theorem dX10_part_115 : decode cX10_part 115 = .ok (.if_icmp .ge 37, 3) := by decide +kernel
theorem dX10_part_118 : decode cX10_part 118 = .ok (.iload_n 3, 1) := by decide +kernel
theorem dX10_part_119 : decode cX10_part 119 = .ok (.istore_n 1, 1) := by decide +kernel
theorem dX10_part_120 : decode cX10_part 120 = .ok (.iconst 0, 1) := by decide +kernel
theorem dX10_part_121 : decode cX10_part 121 = .ok (.istore 4, 2) := by decide +kernel
theorem dX10_part_123 : decode cX10_part 123 = .ok (.iload 4, 2) := by decide +kernel
theorem dX10_part_125 : decode cX10_part 125 = .ok (.aload_n 0, 1) := by decide +kernel
theorem dX10_part_126 : decode cX10_part 126 = .ok (.getfield 283, 3) := by decide +kernel
theorem dX10_part_129 : decode cX10_part 129 = .ok (.if_icmp .ge 23, 3) := by decide +kernel
theorem dX10_part_132 : decode cX10_part 132 = .ok (.aload_n 0, 1) := by decide +kernel
theorem dX10_part_133 : decode cX10_part 133 = .ok (.getfield 80, 3) := by decide +kernel
theorem dX10_part_136 : decode cX10_part 136 = .ok (.iload 4, 2) := by decide +kernel
theorem dX10_part_138 : decode cX10_part 138 = .ok (.aload_n 0, 1) := by decide +kernel
theorem dX10_part_139 : decode cX10_part 139 = .ok (.getfield 77, 3) := by decide +kernel
theorem dX10_part_142 : decode cX10_part 142 = .ok (.iload 4, 2) := by decide +kernel
theorem dX10_part_144 : decode cX10_part 144 = .ok (.iaload, 1) := by decide +kernel
theorem dX10_part_145 : decode cX10_part 145 = .ok (.iastore, 1) := by decide +kernel
theorem dX10_part_146 : decode cX10_part 146 = .ok (.iinc 4 1, 3) := by decide +kernel
theorem dX10_part_149 : decode cX10_part 149 = .ok (.goto (-26), 3) := by decide +kernel
theorem dX10_part_152 : decode cX10_part 152 = .ok (.aload_n 0, 1) := by decide +kernel
theorem dX10_part_153 : decode cX10_part 153 = .ok (.getfield 283, 3) := by decide +kernel
theorem dX10_part_156 : decode cX10_part 156 = .ok (.iconst 1, 1) := by decide +kernel
theorem dX10_part_157 : decode cX10_part 157 = .ok (.isub, 1) := by decide +kernel
theorem dX10_part_158 : decode cX10_part 158 = .ok (.istore 4, 2) := by decide +kernel
theorem dX10_part_160 : decode cX10_part 160 = .ok (.iload 4, 2) := by decide +kernel
theorem dX10_part_162 : decode cX10_part 162 = .ok (.ifCond .lt 33, 3) := by decide +kernel
theorem dX10_part_165 : decode cX10_part 165 = .ok (.aload_n 0, 1) := by decide +kernel
theorem dX10_part_166 : decode cX10_part 166 = .ok (.getfield 77, 3) := by decide +kernel
theorem dX10_part_169 : decode cX10_part 169 = .ok (.iload 4, 2) := by decide +kernel
theorem dX10_part_171 : decode cX10_part 171 = .ok (.iaload, 1) := by decide +kernel
theorem dX10_part_172 : decode cX10_part 172 = .ok (.aload_n 0, 1) := by decide +kernel
theorem dX10_part_173 : decode cX10_part 173 = .ok (.getfield 286, 3) := by decide +kernel
theorem dX10_part_176 : decode cX10_part 176 = .ok (.iconst 1, 1) := by decide +kernel
theorem dX10_part_177 : decode cX10_part 177 = .ok (.isub, 1) := by decide +kernel
theorem dX10_part_178 : decode cX10_part 178 = .ok (.if_icmp .ne 17, 3) := by decide +kernel
theorem dX10_part_181 : decode cX10_part 181 = .ok (.aload_n 0, 1) := by decide +kernel
theorem dX10_part_182 : decode cX10_part 182 = .ok (.getfield 77, 3) := by decide +kernel
theorem dX10_part_185 : decode cX10_part 185 = .ok (.iload 4, 2) := by decide +kernel
theorem dX10_part_187 : decode cX10_part 187 = .ok (.iconst 0, 1) := by decide +kernel
theorem dX10_part_188 : decode cX10_part 188 = .ok (.iastore, 1) := by decide +kernel
theorem dX10_part_189 : decode cX10_part 189 = .ok (.iinc 4 (-1), 3) := by decide +kernel
theorem dX10_part_192 : decode cX10_part 192 = .ok (.goto (-32), 3) := by decide +kernel
theorem dX10_part_195 : decode cX10_part 195 = .ok (.iload 4, 2) := by decide +kernel
theorem dX10_part_197 : decode cX10_part 197 = .ok (.ifCond .lt 7, 3) := by decide +kernel
theorem dX10_part_200 : decode cX10_part 200 = .ok (.iconst 1, 1) := by decide +kernel
theorem dX10_part_201 : decode cX10_part 201 = .ok (.goto 4, 3) := by decide +kernel
theorem dX10_part_204 : decode cX10_part 204 = .ok (.iconst 0, 1) := by decide +kernel
theorem dX10_part_205 : decode cX10_part 205 = .ok (.istore_n 2, 1) := by decide +kernel
theorem dX10_part_206 : decode cX10_part 206 = .ok (.iload_n 2, 1) := by decide +kernel
theorem dX10_part_207 : decode cX10_part 207 = .ok (.ifCond .eq 14, 3) := by decide +kernel
theorem dX10_part_210 : decode cX10_part 210 = .ok (.aload_n 0, 1) := by decide +kernel
theorem dX10_part_211 : decode cX10_part 211 = .ok (.getfield 77, 3) := by decide +kernel
theorem dX10_part_214 : decode cX10_part 214 = .ok (.iload 4, 2) := by decide +kernel
theorem dX10_part_216 : decode cX10_part 216 = .ok (.dup2, 1) := by decide +kernel
theorem dX10_part_217 : decode cX10_part 217 = .ok (.iaload, 1) := by decide +kernel
theorem dX10_part_218 : decode cX10_part 218 = .ok (.iconst 1, 1) := by decide +kernel
theorem dX10_part_219 : decode cX10_part 219 = .ok (.iadd, 1) := by decide +kernel
theorem dX10_part_220 : decode cX10_part 220 = .ok (.iastore, 1) := by decide +kernel
theorem dX10_part_221 : decode cX10_part 221 = .ok (.goto (-168), 3) := by decide +kernel
theorem dX10_part_224 : decode cX10_part 224 = .ok (.iload_n 1, 1) := by decide +kernel
theorem dX10_part_225 : decode cX10_part 225 = .ok (.ireturn, 1) := by decide +kernel
theorem dX10_done_0 : decode cX10_done 0 = .ok (.aload_n 0, 1) := by decide +kernel
theorem dX10_done_1 : decode cX10_done 1 = .ok (.invokevirtual 298, 3) := by decide +kernel
theorem dX10_done_4 : decode cX10_done 4 = .ok (.istore_n 1, 1) := by decide +kernel
theorem dX10_done_5 : decode cX10_done 5 = .ok (.iload_n 1, 1) := by decide +kernel
theorem dX10_done_6 : decode cX10_done 6 = .ok (.ldc_w 267, 3) := by decide +kernel
theorem dX10_done_9 : decode cX10_done 9 = .ok (.if_icmp .ge 7, 3) := by decide +kernel
theorem dX10_done_12 : decode cX10_done 12 = .ok (.iload_n 1, 1) := by decide +kernel
theorem dX10_done_13 : decode cX10_done 13 = .ok (.goto 4, 3) := by decide +kernel
theorem dX10_done_16 : decode cX10_done 16 = .ok (.iconst (-1), 1) := by decide +kernel
theorem dX10_done_17 : decode cX10_done 17 = .ok (.ireturn, 1) := by decide +kernel
theorem dX10_order_0 : decode cX10_order 0 = .ok (.iload_n 1, 1) := by decide +kernel
theorem dX10_order_1 : decode cX10_order 1 = .ok (.ifCond .lt 21, 3) := by decide +kernel
theorem dX10_order_4 : decode cX10_order 4 = .ok (.iload_n 1, 1) := by decide +kernel
theorem dX10_order_5 : decode cX10_order 5 = .ok (.aload_n 0, 1) := by decide +kernel
theorem dX10_order_6 : decode cX10_order 6 = .ok (.getfield 283, 3) := by decide +kernel
theorem dX10_order_9 : decode cX10_order 9 = .ok (.if_icmp .ge 13, 3) := by decide +kernel
theorem dX10_order_12 : decode cX10_order 12 = .ok (.aload_n 0, 1) := by decide +kernel
theorem dX10_order_13 : decode cX10_order 13 = .ok (.invokevirtual 298, 3) := by decide +kernel
theorem dX10_order_16 : decode cX10_order 16 = .ok (.ldc_w 267, 3) := by decide +kernel
theorem dX10_order_19 : decode cX10_order 19 = .ok (.if_icmp .lt 5, 3) := by decide +kernel
theorem dX10_order_22 : decode cX10_order 22 = .ok (.iconst (-1), 1) := by decide +kernel
theorem dX10_order_23 : decode cX10_order 23 = .ok (.ireturn, 1) := by decide +kernel
theorem dX10_order_24 : decode cX10_order 24 = .ok (.iconst 0, 1) := by decide +kernel
theorem dX10_order_25 : decode cX10_order 25 = .ok (.istore_n 3, 1) := by decide +kernel
theorem dX10_order_26 : decode cX10_order 26 = .ok (.iload_n 3, 1) := by decide +kernel
theorem dX10_order_27 : decode cX10_order 27 = .ok (.aload_n 0, 1) := by decide +kernel
theorem dX10_order_28 : decode cX10_order 28 = .ok (.getfield 283, 3) := by decide +kernel
theorem dX10_order_31 : decode cX10_order 31 = .ok (.if_icmp .ge 21, 3) := by decide +kernel
theorem dX10_order_34 : decode cX10_order 34 = .ok (.aload_n 0, 1) := by decide +kernel
theorem dX10_order_35 : decode cX10_order 35 = .ok (.getfield 77, 3) := by decide +kernel
theorem dX10_order_38 : decode cX10_order 38 = .ok (.iload_n 3, 1) := by decide +kernel
theorem dX10_order_39 : decode cX10_order 39 = .ok (.aload_n 0, 1) := by decide +kernel
theorem dX10_order_40 : decode cX10_order 40 = .ok (.getfield 80, 3) := by decide +kernel
theorem dX10_order_43 : decode cX10_order 43 = .ok (.iload_n 3, 1) := by decide +kernel
theorem dX10_order_44 : decode cX10_order 44 = .ok (.iaload, 1) := by decide +kernel
theorem dX10_order_45 : decode cX10_order 45 = .ok (.iastore, 1) := by decide +kernel
theorem dX10_order_46 : decode cX10_order 46 = .ok (.iinc 3 1, 3) := by decide +kernel
theorem dX10_order_49 : decode cX10_order 49 = .ok (.goto (-23), 3) := by decide +kernel
theorem dX10_order_52 : decode cX10_order 52 = .ok (.iconst 0, 1) := by decide +kernel
theorem dX10_order_53 : decode cX10_order 53 = .ok (.istore_n 3, 1) := by decide +kernel
theorem dX10_order_54 : decode cX10_order 54 = .ok (.iload_n 3, 1) := by decide +kernel
theorem dX10_order_55 : decode cX10_order 55 = .ok (.aload_n 0, 1) := by decide +kernel
theorem dX10_order_56 : decode cX10_order 56 = .ok (.getfield 286, 3) := by decide +kernel
theorem dX10_order_59 : decode cX10_order 59 = .ok (.if_icmp .ge 14, 3) := by decide +kernel
theorem dX10_order_62 : decode cX10_order 62 = .ok (.aload_n 0, 1) := by decide +kernel
theorem dX10_order_63 : decode cX10_order 63 = .ok (.iload_n 3, 1) := by decide +kernel
theorem dX10_order_64 : decode cX10_order 64 = .ok (.invokevirtual 301, 3) := by decide +kernel
theorem dX10_order_67 : decode cX10_order 67 = .ok (.iinc 3 1, 3) := by decide +kernel
theorem dX10_order_70 : decode cX10_order 70 = .ok (.goto (-16), 3) := by decide +kernel
theorem dX10_order_73 : decode cX10_order 73 = .ok (.iload_n 2, 1) := by decide +kernel
theorem dX10_order_74 : decode cX10_order 74 = .ok (.ifCond .ne 12, 3) := by decide +kernel
theorem dX10_order_77 : decode cX10_order 77 = .ok (.aload_n 0, 1) := by decide +kernel
theorem dX10_order_78 : decode cX10_order 78 = .ok (.getfield 80, 3) := by decide +kernel
theorem dX10_order_81 : decode cX10_order 81 = .ok (.iload_n 1, 1) := by decide +kernel
theorem dX10_order_82 : decode cX10_order 82 = .ok (.iaload, 1) := by decide +kernel
theorem dX10_order_83 : decode cX10_order 83 = .ok (.goto 32, 3) := by decide +kernel
theorem dX10_order_86 : decode cX10_order 86 = .ok (.iload_n 2, 1) := by decide +kernel
theorem dX10_order_87 : decode cX10_order 87 = .ok (.iconst 1, 1) := by decide +kernel
theorem dX10_order_88 : decode cX10_order 88 = .ok (.if_icmp .ne 12, 3) := by decide +kernel
theorem dX10_order_91 : decode cX10_order 91 = .ok (.aload_n 0, 1) := by decide +kernel
theorem dX10_order_92 : decode cX10_order 92 = .ok (.getfield 83, 3) := by decide +kernel
theorem dX10_order_95 : decode cX10_order 95 = .ok (.iload_n 1, 1) := by decide +kernel
theorem dX10_order_96 : decode cX10_order 96 = .ok (.iaload, 1) := by decide +kernel
theorem dX10_order_97 : decode cX10_order 97 = .ok (.goto 18, 3) := by decide +kernel
theorem dX10_order_100 : decode cX10_order 100 = .ok (.iload_n 2, 1) := by decide +kernel
theorem dX10_order_101 : decode cX10_order 101 = .ok (.iconst 2, 1) := by decide +kernel
theorem dX10_order_102 : decode cX10_order 102 = .ok (.if_icmp .ne 12, 3) := by decide +kernel
theorem dX10_order_105 : decode cX10_order 105 = .ok (.aload_n 0, 1) := by decide +kernel
theorem dX10_order_106 : decode cX10_order 106 = .ok (.getfield 86, 3) := by decide +kernel
theorem dX10_order_109 : decode cX10_order 109 = .ok (.iload_n 1, 1) := by decide +kernel
theorem dX10_order_110 : decode cX10_order 110 = .ok (.iaload, 1) := by decide +kernel
theorem dX10_order_111 : decode cX10_order 111 = .ok (.goto 4, 3) := by decide +kernel
theorem dX10_order_114 : decode cX10_order 114 = .ok (.iconst (-1), 1) := by decide +kernel
theorem dX10_order_115 : decode cX10_order 115 = .ok (.ireturn, 1) := by decide +kernel
theorem dX10_lay_0 : decode cX10_lay 0 = .ok (.aload_n 0, 1) := by decide +kernel
theorem dX10_lay_1 : decode cX10_lay 1 = .ok (.iload_n 1, 1) := by decide +kernel
theorem dX10_lay_2 : decode cX10_lay 2 = .ok (.invokevirtual 295, 3) := by decide +kernel
theorem dX10_lay_5 : decode cX10_lay 5 = .ok (.istore_n 2, 1) := by decide +kernel
theorem dX10_lay_6 : decode cX10_lay 6 = .ok (.aload_n 0, 1) := by decide +kernel
theorem dX10_lay_7 : decode cX10_lay 7 = .ok (.getfield 71, 3) := by decide +kernel
theorem dX10_lay_10 : decode cX10_lay 10 = .ok (.iload_n 1, 1) := by decide +kernel
theorem dX10_lay_11 : decode cX10_lay 11 = .ok (.iaload, 1) := by decide +kernel
theorem dX10_lay_12 : decode cX10_lay 12 = .ok (.istore_n 3, 1) := by decide +kernel
theorem dX10_lay_13 : decode cX10_lay 13 = .ok (.iconst 0, 1) := by decide +kernel
theorem dX10_lay_14 : decode cX10_lay 14 = .ok (.istore 4, 2) := by decide +kernel
theorem dX10_lay_16 : decode cX10_lay 16 = .ok (.iconst 0, 1) := by decide +kernel
theorem dX10_lay_17 : decode cX10_lay 17 = .ok (.istore 5, 2) := by decide +kernel
theorem dX10_lay_19 : decode cX10_lay 19 = .ok (.iload_n 2, 1) := by decide +kernel
theorem dX10_lay_20 : decode cX10_lay 20 = .ok (.ifCond .le 150, 3) := by decide +kernel
theorem dX10_lay_23 : decode cX10_lay 23 = .ok (.iconst 0, 1) := by decide +kernel
theorem dX10_lay_24 : decode cX10_lay 24 = .ok (.istore 6, 2) := by decide +kernel
theorem dX10_lay_26 : decode cX10_lay 26 = .ok (.iload_n 2, 1) := by decide +kernel
theorem dX10_lay_27 : decode cX10_lay 27 = .ok (.iload 6, 2) := by decide +kernel
theorem dX10_lay_29 : decode cX10_lay 29 = .ok (.ishr, 1) := by decide +kernel
theorem dX10_lay_30 : decode cX10_lay 30 = .ok (.iconst 1, 1) := by decide +kernel
theorem dX10_lay_31 : decode cX10_lay 31 = .ok (.iand, 1) := by decide +kernel
theorem dX10_lay_32 : decode cX10_lay 32 = .ok (.ifCond .eq 63, 3) := by decide +kernel
theorem dX10_lay_35 : decode cX10_lay 35 = .ok (.aload_n 0, 1) := by decide +kernel
theorem dX10_lay_36 : decode cX10_lay 36 = .ok (.getfield 62, 3) := by decide +kernel
theorem dX10_lay_39 : decode cX10_lay 39 = .ok (.bipush 8, 2) := by decide +kernel
theorem dX10_lay_41 : decode cX10_lay 41 = .ok (.iload_n 3, 1) := by decide +kernel
theorem dX10_lay_42 : decode cX10_lay 42 = .ok (.imul, 1) := by decide +kernel
theorem dX10_lay_43 : decode cX10_lay 43 = .ok (.aload_n 0, 1) := by decide +kernel
theorem dX10_lay_44 : decode cX10_lay 44 = .ok (.getfield 65, 3) := by decide +kernel
theorem dX10_lay_47 : decode cX10_lay 47 = .ok (.iload 6, 2) := by decide +kernel
theorem dX10_lay_49 : decode cX10_lay 49 = .ok (.iaload, 1) := by decide +kernel
theorem dX10_lay_50 : decode cX10_lay 50 = .ok (.iadd, 1) := by decide +kernel
theorem dX10_lay_51 : decode cX10_lay 51 = .ok (.iaload, 1) := by decide +kernel
theorem dX10_lay_52 : decode cX10_lay 52 = .ok (.aload_n 0, 1) := by decide +kernel
theorem dX10_lay_53 : decode cX10_lay 53 = .ok (.getfield 68, 3) := by decide +kernel
theorem dX10_lay_56 : decode cX10_lay 56 = .ok (.iload 6, 2) := by decide +kernel
theorem dX10_lay_58 : decode cX10_lay 58 = .ok (.iaload, 1) := by decide +kernel
theorem dX10_lay_59 : decode cX10_lay 59 = .ok (.iadd, 1) := by decide +kernel
theorem dX10_lay_60 : decode cX10_lay 60 = .ok (.aload_n 0, 1) := by decide +kernel
theorem dX10_lay_61 : decode cX10_lay 61 = .ok (.getfield 74, 3) := by decide +kernel
theorem dX10_lay_64 : decode cX10_lay 64 = .ok (.iload_n 2, 1) := by decide +kernel
theorem dX10_lay_65 : decode cX10_lay 65 = .ok (.iconst 1, 1) := by decide +kernel
theorem dX10_lay_66 : decode cX10_lay 66 = .ok (.iload 6, 2) := by decide +kernel
theorem dX10_lay_68 : decode cX10_lay 68 = .ok (.ishl, 1) := by decide +kernel
theorem dX10_lay_69 : decode cX10_lay 69 = .ok (.ixor, 1) := by decide +kernel
theorem dX10_lay_70 : decode cX10_lay 70 = .ok (.aload_n 0, 1) := by decide +kernel
theorem dX10_lay_71 : decode cX10_lay 71 = .ok (.getfield 65, 3) := by decide +kernel
theorem dX10_lay_74 : decode cX10_lay 74 = .ok (.iload 6, 2) := by decide +kernel
theorem dX10_lay_76 : decode cX10_lay 76 = .ok (.iaload, 1) := by decide +kernel
theorem dX10_lay_77 : decode cX10_lay 77 = .ok (.invokestatic 289, 3) := by decide +kernel
theorem dX10_lay_80 : decode cX10_lay 80 = .ok (.iaload, 1) := by decide +kernel
theorem dX10_lay_81 : decode cX10_lay 81 = .ok (.iadd, 1) := by decide +kernel
theorem dX10_lay_82 : decode cX10_lay 82 = .ok (.aload_n 0, 1) := by decide +kernel
theorem dX10_lay_83 : decode cX10_lay 83 = .ok (.getfield 74, 3) := by decide +kernel
theorem dX10_lay_86 : decode cX10_lay 86 = .ok (.iload_n 2, 1) := by decide +kernel
theorem dX10_lay_87 : decode cX10_lay 87 = .ok (.iload_n 3, 1) := by decide +kernel
theorem dX10_lay_88 : decode cX10_lay 88 = .ok (.invokestatic 289, 3) := by decide +kernel
theorem dX10_lay_91 : decode cX10_lay 91 = .ok (.iaload, 1) := by decide +kernel
theorem dX10_lay_92 : decode cX10_lay 92 = .ok (.if_icmp .eq 9, 3) := by decide +kernel
theorem dX10_lay_95 : decode cX10_lay 95 = .ok (.iinc 6 1, 3) := by decide +kernel
theorem dX10_lay_98 : decode cX10_lay 98 = .ok (.goto (-72), 3) := by decide +kernel
theorem dX10_lay_101 : decode cX10_lay 101 = .ok (.iload 4, 2) := by decide +kernel
theorem dX10_lay_103 : decode cX10_lay 103 = .ok (.aload_n 0, 1) := by decide +kernel
theorem dX10_lay_104 : decode cX10_lay 104 = .ok (.getfield 62, 3) := by decide +kernel
theorem dX10_lay_107 : decode cX10_lay 107 = .ok (.bipush 8, 2) := by decide +kernel
theorem dX10_lay_109 : decode cX10_lay 109 = .ok (.iload_n 3, 1) := by decide +kernel
theorem dX10_lay_110 : decode cX10_lay 110 = .ok (.imul, 1) := by decide +kernel
theorem dX10_lay_111 : decode cX10_lay 111 = .ok (.aload_n 0, 1) := by decide +kernel
theorem dX10_lay_112 : decode cX10_lay 112 = .ok (.getfield 65, 3) := by decide +kernel
theorem dX10_lay_115 : decode cX10_lay 115 = .ok (.iload 6, 2) := by decide +kernel
theorem dX10_lay_117 : decode cX10_lay 117 = .ok (.iaload, 1) := by decide +kernel
theorem dX10_lay_118 : decode cX10_lay 118 = .ok (.iadd, 1) := by decide +kernel
theorem dX10_lay_119 : decode cX10_lay 119 = .ok (.iaload, 1) := by decide +kernel
theorem dX10_lay_120 : decode cX10_lay 120 = .ok (.aload_n 0, 1) := by decide +kernel
theorem dX10_lay_121 : decode cX10_lay 121 = .ok (.getfield 68, 3) := by decide +kernel
theorem dX10_lay_124 : decode cX10_lay 124 = .ok (.iload 6, 2) := by decide +kernel
theorem dX10_lay_126 : decode cX10_lay 126 = .ok (.iaload, 1) := by decide +kernel
theorem dX10_lay_127 : decode cX10_lay 127 = .ok (.iadd, 1) := by decide +kernel
theorem dX10_lay_128 : decode cX10_lay 128 = .ok (.iadd, 1) := by decide +kernel
theorem dX10_lay_129 : decode cX10_lay 129 = .ok (.istore 4, 2) := by decide +kernel
theorem dX10_lay_131 : decode cX10_lay 131 = .ok (.aload_n 0, 1) := by decide +kernel
theorem dX10_lay_132 : decode cX10_lay 132 = .ok (.getfield 83, 3) := by decide +kernel
theorem dX10_lay_135 : decode cX10_lay 135 = .ok (.iload 6, 2) := by decide +kernel
theorem dX10_lay_137 : decode cX10_lay 137 = .ok (.iload 5, 2) := by decide +kernel
theorem dX10_lay_139 : decode cX10_lay 139 = .ok (.iastore, 1) := by decide +kernel
theorem dX10_lay_140 : decode cX10_lay 140 = .ok (.aload_n 0, 1) := by decide +kernel
theorem dX10_lay_141 : decode cX10_lay 141 = .ok (.getfield 86, 3) := by decide +kernel
theorem dX10_lay_144 : decode cX10_lay 144 = .ok (.iload 6, 2) := by decide +kernel
theorem dX10_lay_146 : decode cX10_lay 146 = .ok (.iload 4, 2) := by decide +kernel
theorem dX10_lay_148 : decode cX10_lay 148 = .ok (.iastore, 1) := by decide +kernel
theorem dX10_lay_149 : decode cX10_lay 149 = .ok (.iinc 5 1, 3) := by decide +kernel
theorem dX10_lay_152 : decode cX10_lay 152 = .ok (.aload_n 0, 1) := by decide +kernel
theorem dX10_lay_153 : decode cX10_lay 153 = .ok (.getfield 65, 3) := by decide +kernel
theorem dX10_lay_156 : decode cX10_lay 156 = .ok (.iload 6, 2) := by decide +kernel
theorem dX10_lay_158 : decode cX10_lay 158 = .ok (.iaload, 1) := by decide +kernel
theorem dX10_lay_159 : decode cX10_lay 159 = .ok (.istore_n 3, 1) := by decide +kernel
theorem dX10_lay_160 : decode cX10_lay 160 = .ok (.iload_n 2, 1) := by decide +kernel
theorem dX10_lay_161 : decode cX10_lay 161 = .ok (.iconst 1, 1) := by decide +kernel
theorem dX10_lay_162 : decode cX10_lay 162 = .ok (.iload 6, 2) := by decide +kernel
theorem dX10_lay_164 : decode cX10_lay 164 = .ok (.ishl, 1) := by decide +kernel
theorem dX10_lay_165 : decode cX10_lay 165 = .ok (.ixor, 1) := by decide +kernel
theorem dX10_lay_166 : decode cX10_lay 166 = .ok (.istore_n 2, 1) := by decide +kernel
theorem dX10_lay_167 : decode cX10_lay 167 = .ok (.goto (-148), 3) := by decide +kernel
theorem dX10_lay_170 : decode cX10_lay 170 = .ok (.return_, 1) := by decide +kernel
theorem dX10_later_0 : decode cX10_later 0 = .ok (.iload_n 1, 1) := by decide +kernel
theorem dX10_later_1 : decode cX10_later 1 = .ok (.ifCond .lt 22, 3) := by decide +kernel
theorem dX10_later_4 : decode cX10_later 4 = .ok (.iload_n 1, 1) := by decide +kernel
theorem dX10_later_5 : decode cX10_later 5 = .ok (.sipush 1000, 3) := by decide +kernel
theorem dX10_later_8 : decode cX10_later 8 = .ok (.if_icmp .gt 15, 3) := by decide +kernel
theorem dX10_later_11 : decode cX10_later 11 = .ok (.aload_n 0, 1) := by decide +kernel
theorem dX10_later_12 : decode cX10_later 12 = .ok (.getfield 305, 3) := by decide +kernel
theorem dX10_later_15 : decode cX10_later 15 = .ok (.iload_n 1, 1) := by decide +kernel
theorem dX10_later_16 : decode cX10_later 16 = .ok (.iadd, 1) := by decide +kernel
theorem dX10_later_17 : decode cX10_later 17 = .ok (.ldc_w 308, 3) := by decide +kernel
theorem dX10_later_20 : decode cX10_later 20 = .ok (.if_icmp .le 5, 3) := by decide +kernel
theorem dX10_later_23 : decode cX10_later 23 = .ok (.iconst (-1), 1) := by decide +kernel
theorem dX10_later_24 : decode cX10_later 24 = .ok (.ireturn, 1) := by decide +kernel
theorem dX10_later_25 : decode cX10_later 25 = .ok (.aload_n 0, 1) := by decide +kernel
theorem dX10_later_26 : decode cX10_later 26 = .ok (.dup, 1) := by decide +kernel
theorem dX10_later_27 : decode cX10_later 27 = .ok (.getfield 305, 3) := by decide +kernel
theorem dX10_later_30 : decode cX10_later 30 = .ok (.iload_n 1, 1) := by decide +kernel
theorem dX10_later_31 : decode cX10_later 31 = .ok (.iadd, 1) := by decide +kernel
theorem dX10_later_32 : decode cX10_later 32 = .ok (.putfield 305, 3) := by decide +kernel
theorem dX10_later_35 : decode cX10_later 35 = .ok (.aload_n 0, 1) := by decide +kernel
theorem dX10_later_36 : decode cX10_later 36 = .ok (.getfield 305, 3) := by decide +kernel
theorem dX10_later_39 : decode cX10_later 39 = .ok (.ireturn, 1) := by decide +kernel
theorem dX10_isWeek_0 : decode cX10_isWeek 0 = .ok (.iload_n 0, 1) := by decide +kernel
theorem dX10_isWeek_1 : decode cX10_isWeek 1 = .ok (.bipush (-50), 2) := by decide +kernel
theorem dX10_isWeek_3 : decode cX10_isWeek 3 = .ok (.if_icmp .lt 13, 3) := by decide +kernel
theorem dX10_isWeek_6 : decode cX10_isWeek 6 = .ok (.iload_n 0, 1) := by decide +kernel
theorem dX10_isWeek_7 : decode cX10_isWeek 7 = .ok (.bipush 50, 2) := by decide +kernel
theorem dX10_isWeek_9 : decode cX10_isWeek 9 = .ok (.if_icmp .gt 7, 3) := by decide +kernel
theorem dX10_isWeek_12 : decode cX10_isWeek 12 = .ok (.iconst 1, 1) := by decide +kernel
theorem dX10_isWeek_13 : decode cX10_isWeek 13 = .ok (.goto 4, 3) := by decide +kernel
theorem dX10_isWeek_16 : decode cX10_isWeek 16 = .ok (.iconst 0, 1) := by decide +kernel
theorem dX10_isWeek_17 : decode cX10_isWeek 17 = .ok (.ireturn, 1) := by decide +kernel
theorem dX10_tell_0 : decode cX10_tell 0 = .ok (.iload_n 1, 1) := by decide +kernel
theorem dX10_tell_1 : decode cX10_tell 1 = .ok (.invokestatic 240, 3) := by decide +kernel
theorem dX10_tell_4 : decode cX10_tell 4 = .ok (.ifCond .eq 30, 3) := by decide +kernel
theorem dX10_tell_7 : decode cX10_tell 7 = .ok (.iload_n 2, 1) := by decide +kernel
theorem dX10_tell_8 : decode cX10_tell 8 = .ok (.invokestatic 309, 3) := by decide +kernel
theorem dX10_tell_11 : decode cX10_tell 11 = .ok (.ifCond .eq 23, 3) := by decide +kernel
theorem dX10_tell_14 : decode cX10_tell 14 = .ok (.iload_n 3, 1) := by decide +kernel
theorem dX10_tell_15 : decode cX10_tell 15 = .ok (.ifCond .lt 19, 3) := by decide +kernel
theorem dX10_tell_18 : decode cX10_tell 18 = .ok (.iload_n 3, 1) := by decide +kernel
theorem dX10_tell_19 : decode cX10_tell 19 = .ok (.sipush 1000, 3) := by decide +kernel
theorem dX10_tell_22 : decode cX10_tell 22 = .ok (.if_icmp .gt 12, 3) := by decide +kernel
theorem dX10_tell_25 : decode cX10_tell 25 = .ok (.aload_n 0, 1) := by decide +kernel
theorem dX10_tell_26 : decode cX10_tell 26 = .ok (.getfield 312, 3) := by decide +kernel
theorem dX10_tell_29 : decode cX10_tell 29 = .ok (.bipush 60, 2) := by decide +kernel
theorem dX10_tell_31 : decode cX10_tell 31 = .ok (.if_icmp .ne 5, 3) := by decide +kernel
theorem dX10_tell_34 : decode cX10_tell 34 = .ok (.iconst (-1), 1) := by decide +kernel
theorem dX10_tell_35 : decode cX10_tell 35 = .ok (.ireturn, 1) := by decide +kernel
theorem dX10_tell_36 : decode cX10_tell 36 = .ok (.aload_n 0, 1) := by decide +kernel
theorem dX10_tell_37 : decode cX10_tell 37 = .ok (.getfield 89, 3) := by decide +kernel
theorem dX10_tell_40 : decode cX10_tell 40 = .ok (.aload_n 0, 1) := by decide +kernel
theorem dX10_tell_41 : decode cX10_tell 41 = .ok (.getfield 312, 3) := by decide +kernel
theorem dX10_tell_44 : decode cX10_tell 44 = .ok (.iload_n 1, 1) := by decide +kernel
theorem dX10_tell_45 : decode cX10_tell 45 = .ok (.iastore, 1) := by decide +kernel
theorem dX10_tell_46 : decode cX10_tell 46 = .ok (.aload_n 0, 1) := by decide +kernel
theorem dX10_tell_47 : decode cX10_tell 47 = .ok (.getfield 92, 3) := by decide +kernel
theorem dX10_tell_50 : decode cX10_tell 50 = .ok (.aload_n 0, 1) := by decide +kernel
theorem dX10_tell_51 : decode cX10_tell 51 = .ok (.getfield 312, 3) := by decide +kernel
theorem dX10_tell_54 : decode cX10_tell 54 = .ok (.iload_n 2, 1) := by decide +kernel
theorem dX10_tell_55 : decode cX10_tell 55 = .ok (.iastore, 1) := by decide +kernel
theorem dX10_tell_56 : decode cX10_tell 56 = .ok (.aload_n 0, 1) := by decide +kernel
theorem dX10_tell_57 : decode cX10_tell 57 = .ok (.getfield 95, 3) := by decide +kernel
theorem dX10_tell_60 : decode cX10_tell 60 = .ok (.aload_n 0, 1) := by decide +kernel
theorem dX10_tell_61 : decode cX10_tell 61 = .ok (.getfield 312, 3) := by decide +kernel
theorem dX10_tell_64 : decode cX10_tell 64 = .ok (.iload_n 3, 1) := by decide +kernel
theorem dX10_tell_65 : decode cX10_tell 65 = .ok (.iastore, 1) := by decide +kernel
theorem dX10_tell_66 : decode cX10_tell 66 = .ok (.aload_n 0, 1) := by decide +kernel
theorem dX10_tell_67 : decode cX10_tell 67 = .ok (.getfield 98, 3) := by decide +kernel
theorem dX10_tell_70 : decode cX10_tell 70 = .ok (.aload_n 0, 1) := by decide +kernel
theorem dX10_tell_71 : decode cX10_tell 71 = .ok (.getfield 312, 3) := by decide +kernel
theorem dX10_tell_74 : decode cX10_tell 74 = .ok (.aload_n 0, 1) := by decide +kernel
theorem dX10_tell_75 : decode cX10_tell 75 = .ok (.getfield 305, 3) := by decide +kernel
theorem dX10_tell_78 : decode cX10_tell 78 = .ok (.iastore, 1) := by decide +kernel
theorem dX10_tell_79 : decode cX10_tell 79 = .ok (.aload_n 0, 1) := by decide +kernel
theorem dX10_tell_80 : decode cX10_tell 80 = .ok (.getfield 101, 3) := by decide +kernel
theorem dX10_tell_83 : decode cX10_tell 83 = .ok (.aload_n 0, 1) := by decide +kernel
theorem dX10_tell_84 : decode cX10_tell 84 = .ok (.getfield 312, 3) := by decide +kernel
theorem dX10_tell_87 : decode cX10_tell 87 = .ok (.iconst (-1), 1) := by decide +kernel
theorem dX10_tell_88 : decode cX10_tell 88 = .ok (.iastore, 1) := by decide +kernel
theorem dX10_tell_89 : decode cX10_tell 89 = .ok (.aload_n 0, 1) := by decide +kernel
theorem dX10_tell_90 : decode cX10_tell 90 = .ok (.dup, 1) := by decide +kernel
theorem dX10_tell_91 : decode cX10_tell 91 = .ok (.getfield 312, 3) := by decide +kernel
theorem dX10_tell_94 : decode cX10_tell 94 = .ok (.iconst 1, 1) := by decide +kernel
theorem dX10_tell_95 : decode cX10_tell 95 = .ok (.iadd, 1) := by decide +kernel
theorem dX10_tell_96 : decode cX10_tell 96 = .ok (.putfield 312, 3) := by decide +kernel
theorem dX10_tell_99 : decode cX10_tell 99 = .ok (.aload_n 0, 1) := by decide +kernel
theorem dX10_tell_100 : decode cX10_tell 100 = .ok (.getfield 312, 3) := by decide +kernel
theorem dX10_tell_103 : decode cX10_tell 103 = .ok (.iconst 1, 1) := by decide +kernel
theorem dX10_tell_104 : decode cX10_tell 104 = .ok (.isub, 1) := by decide +kernel
theorem dX10_tell_105 : decode cX10_tell 105 = .ok (.ireturn, 1) := by decide +kernel
theorem dX10_untell_0 : decode cX10_untell 0 = .ok (.iload_n 1, 1) := by decide +kernel
theorem dX10_untell_1 : decode cX10_untell 1 = .ok (.ifCond .lt 20, 3) := by decide +kernel
theorem dX10_untell_4 : decode cX10_untell 4 = .ok (.iload_n 1, 1) := by decide +kernel
theorem dX10_untell_5 : decode cX10_untell 5 = .ok (.aload_n 0, 1) := by decide +kernel
theorem dX10_untell_6 : decode cX10_untell 6 = .ok (.getfield 312, 3) := by decide +kernel
theorem dX10_untell_9 : decode cX10_untell 9 = .ok (.if_icmp .ge 12, 3) := by decide +kernel
theorem dX10_untell_12 : decode cX10_untell 12 = .ok (.aload_n 0, 1) := by decide +kernel
theorem dX10_untell_13 : decode cX10_untell 13 = .ok (.getfield 101, 3) := by decide +kernel
theorem dX10_untell_16 : decode cX10_untell 16 = .ok (.iload_n 1, 1) := by decide +kernel
theorem dX10_untell_17 : decode cX10_untell 17 = .ok (.iaload, 1) := by decide +kernel
theorem dX10_untell_18 : decode cX10_untell 18 = .ok (.ifCond .lt 5, 3) := by decide +kernel
theorem dX10_untell_21 : decode cX10_untell 21 = .ok (.iconst 0, 1) := by decide +kernel
theorem dX10_untell_22 : decode cX10_untell 22 = .ok (.ireturn, 1) := by decide +kernel
theorem dX10_untell_23 : decode cX10_untell 23 = .ok (.aload_n 0, 1) := by decide +kernel
theorem dX10_untell_24 : decode cX10_untell 24 = .ok (.getfield 101, 3) := by decide +kernel
theorem dX10_untell_27 : decode cX10_untell 27 = .ok (.iload_n 1, 1) := by decide +kernel
theorem dX10_untell_28 : decode cX10_untell 28 = .ok (.aload_n 0, 1) := by decide +kernel
theorem dX10_untell_29 : decode cX10_untell 29 = .ok (.getfield 305, 3) := by decide +kernel
theorem dX10_untell_32 : decode cX10_untell 32 = .ok (.iastore, 1) := by decide +kernel
theorem dX10_untell_33 : decode cX10_untell 33 = .ok (.iconst 1, 1) := by decide +kernel
theorem dX10_untell_34 : decode cX10_untell 34 = .ok (.ireturn, 1) := by decide +kernel
theorem dX10_of_0 : decode cX10_of 0 = .ok (.iconst (-1), 1) := by decide +kernel
theorem dX10_of_1 : decode cX10_of 1 = .ok (.istore 4, 2) := by decide +kernel
theorem dX10_of_3 : decode cX10_of 3 = .ok (.iconst 0, 1) := by decide +kernel
theorem dX10_of_4 : decode cX10_of 4 = .ok (.istore 5, 2) := by decide +kernel
theorem dX10_of_6 : decode cX10_of 6 = .ok (.iload 5, 2) := by decide +kernel
theorem dX10_of_8 : decode cX10_of 8 = .ok (.aload_n 0, 1) := by decide +kernel
theorem dX10_of_9 : decode cX10_of 9 = .ok (.getfield 312, 3) := by decide +kernel
theorem dX10_of_12 : decode cX10_of 12 = .ok (.if_icmp .ge 72, 3) := by decide +kernel
theorem dX10_of_15 : decode cX10_of 15 = .ok (.aload_n 0, 1) := by decide +kernel
theorem dX10_of_16 : decode cX10_of 16 = .ok (.getfield 89, 3) := by decide +kernel
theorem dX10_of_19 : decode cX10_of 19 = .ok (.iload 5, 2) := by decide +kernel
theorem dX10_of_21 : decode cX10_of 21 = .ok (.iaload, 1) := by decide +kernel
theorem dX10_of_22 : decode cX10_of 22 = .ok (.iload_n 1, 1) := by decide +kernel
theorem dX10_of_23 : decode cX10_of 23 = .ok (.if_icmp .ne 55, 3) := by decide +kernel
theorem dX10_of_26 : decode cX10_of 26 = .ok (.aload_n 0, 1) := by decide +kernel
theorem dX10_of_27 : decode cX10_of 27 = .ok (.getfield 92, 3) := by decide +kernel
theorem dX10_of_30 : decode cX10_of 30 = .ok (.iload 5, 2) := by decide +kernel
theorem dX10_of_32 : decode cX10_of 32 = .ok (.iaload, 1) := by decide +kernel
theorem dX10_of_33 : decode cX10_of 33 = .ok (.iload_n 2, 1) := by decide +kernel
theorem dX10_of_34 : decode cX10_of 34 = .ok (.if_icmp .ne 44, 3) := by decide +kernel
theorem dX10_of_37 : decode cX10_of 37 = .ok (.aload_n 0, 1) := by decide +kernel
theorem dX10_of_38 : decode cX10_of 38 = .ok (.getfield 98, 3) := by decide +kernel
theorem dX10_of_41 : decode cX10_of 41 = .ok (.iload 5, 2) := by decide +kernel
theorem dX10_of_43 : decode cX10_of 43 = .ok (.iaload, 1) := by decide +kernel
theorem dX10_of_44 : decode cX10_of 44 = .ok (.iload_n 3, 1) := by decide +kernel
theorem dX10_of_45 : decode cX10_of 45 = .ok (.if_icmp .gt 33, 3) := by decide +kernel
theorem dX10_of_48 : decode cX10_of 48 = .ok (.aload_n 0, 1) := by decide +kernel
theorem dX10_of_49 : decode cX10_of 49 = .ok (.getfield 101, 3) := by decide +kernel
theorem dX10_of_52 : decode cX10_of 52 = .ok (.iload 5, 2) := by decide +kernel
theorem dX10_of_54 : decode cX10_of 54 = .ok (.iaload, 1) := by decide +kernel
theorem dX10_of_55 : decode cX10_of 55 = .ok (.ifCond .lt 14, 3) := by decide +kernel
theorem dX10_of_58 : decode cX10_of 58 = .ok (.aload_n 0, 1) := by decide +kernel
theorem dX10_of_59 : decode cX10_of 59 = .ok (.getfield 101, 3) := by decide +kernel
theorem dX10_of_62 : decode cX10_of 62 = .ok (.iload 5, 2) := by decide +kernel
theorem dX10_of_64 : decode cX10_of 64 = .ok (.iaload, 1) := by decide +kernel
theorem dX10_of_65 : decode cX10_of 65 = .ok (.iload_n 3, 1) := by decide +kernel
theorem dX10_of_66 : decode cX10_of 66 = .ok (.if_icmp .le 12, 3) := by decide +kernel
theorem dX10_of_69 : decode cX10_of 69 = .ok (.aload_n 0, 1) := by decide +kernel
theorem dX10_of_70 : decode cX10_of 70 = .ok (.getfield 95, 3) := by decide +kernel
theorem dX10_of_73 : decode cX10_of 73 = .ok (.iload 5, 2) := by decide +kernel
theorem dX10_of_75 : decode cX10_of 75 = .ok (.iaload, 1) := by decide +kernel
theorem dX10_of_76 : decode cX10_of 76 = .ok (.istore 4, 2) := by decide +kernel
theorem dX10_of_78 : decode cX10_of 78 = .ok (.iinc 5 1, 3) := by decide +kernel
theorem dX10_of_81 : decode cX10_of 81 = .ok (.goto (-75), 3) := by decide +kernel
theorem dX10_of_84 : decode cX10_of 84 = .ok (.iload 4, 2) := by decide +kernel
theorem dX10_of_86 : decode cX10_of 86 = .ok (.ireturn, 1) := by decide +kernel
theorem dX10_harms_0 : decode cX10_harms 0 = .ok (.iload_n 1, 1) := by decide +kernel
theorem dX10_harms_1 : decode cX10_harms 1 = .ok (.invokestatic 240, 3) := by decide +kernel
theorem dX10_harms_4 : decode cX10_harms 4 = .ok (.ifCond .eq 22, 3) := by decide +kernel
theorem dX10_harms_7 : decode cX10_harms 7 = .ok (.iload_n 2, 1) := by decide +kernel
theorem dX10_harms_8 : decode cX10_harms 8 = .ok (.invokestatic 309, 3) := by decide +kernel
theorem dX10_harms_11 : decode cX10_harms 11 = .ok (.ifCond .eq 15, 3) := by decide +kernel
theorem dX10_harms_14 : decode cX10_harms 14 = .ok (.iload_n 3, 1) := by decide +kernel
theorem dX10_harms_15 : decode cX10_harms 15 = .ok (.invokestatic 309, 3) := by decide +kernel
theorem dX10_harms_18 : decode cX10_harms 18 = .ok (.ifCond .eq 8, 3) := by decide +kernel
theorem dX10_harms_21 : decode cX10_harms 21 = .ok (.iload_n 2, 1) := by decide +kernel
theorem dX10_harms_22 : decode cX10_harms 22 = .ok (.iload_n 3, 1) := by decide +kernel
theorem dX10_harms_23 : decode cX10_harms 23 = .ok (.if_icmp .le 5, 3) := by decide +kernel
theorem dX10_harms_26 : decode cX10_harms 26 = .ok (.iconst (-1), 1) := by decide +kernel
theorem dX10_harms_27 : decode cX10_harms 27 = .ok (.ireturn, 1) := by decide +kernel
theorem dX10_harms_28 : decode cX10_harms 28 = .ok (.iconst 0, 1) := by decide +kernel
theorem dX10_harms_29 : decode cX10_harms 29 = .ok (.istore 5, 2) := by decide +kernel
theorem dX10_harms_31 : decode cX10_harms 31 = .ok (.iload_n 2, 1) := by decide +kernel
theorem dX10_harms_32 : decode cX10_harms 32 = .ok (.istore 6, 2) := by decide +kernel
theorem dX10_harms_34 : decode cX10_harms 34 = .ok (.iload 6, 2) := by decide +kernel
theorem dX10_harms_36 : decode cX10_harms 36 = .ok (.iload_n 3, 1) := by decide +kernel
theorem dX10_harms_37 : decode cX10_harms 37 = .ok (.if_icmp .gt 39, 3) := by decide +kernel
theorem dX10_harms_40 : decode cX10_harms 40 = .ok (.iload 5, 2) := by decide +kernel
theorem dX10_harms_42 : decode cX10_harms 42 = .ok (.aload_n 0, 1) := by decide +kernel
theorem dX10_harms_43 : decode cX10_harms 43 = .ok (.iload_n 1, 1) := by decide +kernel
theorem dX10_harms_44 : decode cX10_harms 44 = .ok (.iload 6, 2) := by decide +kernel
theorem dX10_harms_46 : decode cX10_harms 46 = .ok (.iload 4, 2) := by decide +kernel
theorem dX10_harms_48 : decode cX10_harms 48 = .ok (.invokevirtual 315, 3) := by decide +kernel
theorem dX10_harms_51 : decode cX10_harms 51 = .ok (.ifCond .ge 7, 3) := by decide +kernel
theorem dX10_harms_54 : decode cX10_harms 54 = .ok (.iconst 0, 1) := by decide +kernel
theorem dX10_harms_55 : decode cX10_harms 55 = .ok (.goto 12, 3) := by decide +kernel
theorem dX10_harms_58 : decode cX10_harms 58 = .ok (.aload_n 0, 1) := by decide +kernel
theorem dX10_harms_59 : decode cX10_harms 59 = .ok (.iload_n 1, 1) := by decide +kernel
theorem dX10_harms_60 : decode cX10_harms 60 = .ok (.iload 6, 2) := by decide +kernel
theorem dX10_harms_62 : decode cX10_harms 62 = .ok (.iload 4, 2) := by decide +kernel
theorem dX10_harms_64 : decode cX10_harms 64 = .ok (.invokevirtual 315, 3) := by decide +kernel
theorem dX10_harms_67 : decode cX10_harms 67 = .ok (.iadd, 1) := by decide +kernel
theorem dX10_harms_68 : decode cX10_harms 68 = .ok (.istore 5, 2) := by decide +kernel
theorem dX10_harms_70 : decode cX10_harms 70 = .ok (.iinc 6 1, 3) := by decide +kernel
theorem dX10_harms_73 : decode cX10_harms 73 = .ok (.goto (-39), 3) := by decide +kernel
theorem dX10_harms_76 : decode cX10_harms 76 = .ok (.iload 5, 2) := by decide +kernel
theorem dX10_harms_78 : decode cX10_harms 78 = .ok (.ireturn, 1) := by decide +kernel
theorem dX10_differ_0 : decode cX10_differ 0 = .ok (.iload_n 1, 1) := by decide +kernel
theorem dX10_differ_1 : decode cX10_differ 1 = .ok (.invokestatic 240, 3) := by decide +kernel
theorem dX10_differ_4 : decode cX10_differ 4 = .ok (.ifCond .eq 14, 3) := by decide +kernel
theorem dX10_differ_7 : decode cX10_differ 7 = .ok (.iload_n 2, 1) := by decide +kernel
theorem dX10_differ_8 : decode cX10_differ 8 = .ok (.iconst 1, 1) := by decide +kernel
theorem dX10_differ_9 : decode cX10_differ 9 = .ok (.if_icmp .lt 9, 3) := by decide +kernel
theorem dX10_differ_12 : decode cX10_differ 12 = .ok (.iload_n 2, 1) := by decide +kernel
theorem dX10_differ_13 : decode cX10_differ 13 = .ok (.bipush 50, 2) := by decide +kernel
theorem dX10_differ_15 : decode cX10_differ 15 = .ok (.if_icmp .le 5, 3) := by decide +kernel
theorem dX10_differ_18 : decode cX10_differ 18 = .ok (.iconst (-1), 1) := by decide +kernel
theorem dX10_differ_19 : decode cX10_differ 19 = .ok (.ireturn, 1) := by decide +kernel
theorem dX10_differ_20 : decode cX10_differ 20 = .ok (.iload_n 2, 1) := by decide +kernel
theorem dX10_differ_21 : decode cX10_differ 21 = .ok (.ineg, 1) := by decide +kernel
theorem dX10_differ_22 : decode cX10_differ 22 = .ok (.istore 4, 2) := by decide +kernel
theorem dX10_differ_24 : decode cX10_differ 24 = .ok (.iload 4, 2) := by decide +kernel
theorem dX10_differ_26 : decode cX10_differ 26 = .ok (.iload_n 2, 1) := by decide +kernel
theorem dX10_differ_27 : decode cX10_differ 27 = .ok (.if_icmp .ge 22, 3) := by decide +kernel
theorem dX10_differ_30 : decode cX10_differ 30 = .ok (.aload_n 0, 1) := by decide +kernel
theorem dX10_differ_31 : decode cX10_differ 31 = .ok (.iload_n 1, 1) := by decide +kernel
theorem dX10_differ_32 : decode cX10_differ 32 = .ok (.iload 4, 2) := by decide +kernel
theorem dX10_differ_34 : decode cX10_differ 34 = .ok (.iload_n 3, 1) := by decide +kernel
theorem dX10_differ_35 : decode cX10_differ 35 = .ok (.invokevirtual 315, 3) := by decide +kernel
theorem dX10_differ_38 : decode cX10_differ 38 = .ok (.ifCond .ge 5, 3) := by decide +kernel
theorem dX10_differ_41 : decode cX10_differ 41 = .ok (.iconst 0, 1) := by decide +kernel
theorem dX10_differ_42 : decode cX10_differ 42 = .ok (.ireturn, 1) := by decide +kernel
theorem dX10_differ_43 : decode cX10_differ 43 = .ok (.iinc 4 1, 3) := by decide +kernel
theorem dX10_differ_46 : decode cX10_differ 46 = .ok (.goto (-22), 3) := by decide +kernel
theorem dX10_differ_49 : decode cX10_differ 49 = .ok (.aload_n 0, 1) := by decide +kernel
theorem dX10_differ_50 : decode cX10_differ 50 = .ok (.iload_n 1, 1) := by decide +kernel
theorem dX10_differ_51 : decode cX10_differ 51 = .ok (.iload_n 2, 1) := by decide +kernel
theorem dX10_differ_52 : decode cX10_differ 52 = .ok (.ineg, 1) := by decide +kernel
theorem dX10_differ_53 : decode cX10_differ 53 = .ok (.iconst (-1), 1) := by decide +kernel
theorem dX10_differ_54 : decode cX10_differ 54 = .ok (.iload_n 3, 1) := by decide +kernel
theorem dX10_differ_55 : decode cX10_differ 55 = .ok (.invokevirtual 318, 3) := by decide +kernel
theorem dX10_differ_58 : decode cX10_differ 58 = .ok (.i2l, 1) := by decide +kernel
theorem dX10_differ_59 : decode cX10_differ 59 = .ok (.lstore 4, 2) := by decide +kernel
theorem dX10_differ_61 : decode cX10_differ 61 = .ok (.aload_n 0, 1) := by decide +kernel
theorem dX10_differ_62 : decode cX10_differ 62 = .ok (.iload_n 1, 1) := by decide +kernel
theorem dX10_differ_63 : decode cX10_differ 63 = .ok (.iconst 0, 1) := by decide +kernel
theorem dX10_differ_64 : decode cX10_differ 64 = .ok (.iload_n 2, 1) := by decide +kernel
theorem dX10_differ_65 : decode cX10_differ 65 = .ok (.iconst 1, 1) := by decide +kernel
theorem dX10_differ_66 : decode cX10_differ 66 = .ok (.isub, 1) := by decide +kernel
theorem dX10_differ_67 : decode cX10_differ 67 = .ok (.iload_n 3, 1) := by decide +kernel
theorem dX10_differ_68 : decode cX10_differ 68 = .ok (.invokevirtual 318, 3) := by decide +kernel
theorem dX10_differ_71 : decode cX10_differ 71 = .ok (.i2l, 1) := by decide +kernel
theorem dX10_differ_72 : decode cX10_differ 72 = .ok (.lstore 6, 2) := by decide +kernel
theorem dX10_differ_74 : decode cX10_differ 74 = .ok (.lload 6, 2) := by decide +kernel
theorem dX10_differ_76 : decode cX10_differ 76 = .ok (.lload 4, 2) := by decide +kernel
theorem dX10_differ_78 : decode cX10_differ 78 = .ok (.lsub, 1) := by decide +kernel
theorem dX10_differ_79 : decode cX10_differ 79 = .ok (.lload 6, 2) := by decide +kernel
theorem dX10_differ_81 : decode cX10_differ 81 = .ok (.lload 4, 2) := by decide +kernel
theorem dX10_differ_83 : decode cX10_differ 83 = .ok (.lsub, 1) := by decide +kernel
theorem dX10_differ_84 : decode cX10_differ 84 = .ok (.lmul, 1) := by decide +kernel
theorem dX10_differ_85 : decode cX10_differ 85 = .ok (.ldc2_w 321, 3) := by decide +kernel
theorem dX10_differ_88 : decode cX10_differ 88 = .ok (.lload 6, 2) := by decide +kernel
theorem dX10_differ_90 : decode cX10_differ 90 = .ok (.lload 4, 2) := by decide +kernel
theorem dX10_differ_92 : decode cX10_differ 92 = .ok (.ladd, 1) := by decide +kernel
theorem dX10_differ_93 : decode cX10_differ 93 = .ok (.lmul, 1) := by decide +kernel
theorem dX10_differ_94 : decode cX10_differ 94 = .ok (.lcmp, 1) := by decide +kernel
theorem dX10_differ_95 : decode cX10_differ 95 = .ok (.ifCond .le 7, 3) := by decide +kernel
theorem dX10_differ_98 : decode cX10_differ 98 = .ok (.iconst 1, 1) := by decide +kernel
theorem dX10_differ_99 : decode cX10_differ 99 = .ok (.goto 4, 3) := by decide +kernel
theorem dX10_differ_102 : decode cX10_differ 102 = .ok (.iconst 2, 1) := by decide +kernel
theorem dX10_differ_103 : decode cX10_differ 103 = .ok (.ireturn, 1) := by decide +kernel
theorem dX10_about_0 : decode cX10_about 0 = .ok (.iload_n 1, 1) := by decide +kernel
theorem dX10_about_1 : decode cX10_about 1 = .ok (.tableswitch 101 0 8 #[51, 56, 61, 66, 76, 81, 86, 91, 96], 51) := by decide +kernel
theorem dX10_about_52 : decode cX10_about 52 = .ok (.aload_n 0, 1) := by decide +kernel
theorem dX10_about_53 : decode cX10_about 53 = .ok (.getfield 104, 3) := by decide +kernel
theorem dX10_about_56 : decode cX10_about 56 = .ok (.ireturn, 1) := by decide +kernel
theorem dX10_about_57 : decode cX10_about 57 = .ok (.aload_n 0, 1) := by decide +kernel
theorem dX10_about_58 : decode cX10_about 58 = .ok (.getfield 107, 3) := by decide +kernel
theorem dX10_about_61 : decode cX10_about 61 = .ok (.ireturn, 1) := by decide +kernel
theorem dX10_about_62 : decode cX10_about 62 = .ok (.aload_n 0, 1) := by decide +kernel
theorem dX10_about_63 : decode cX10_about 63 = .ok (.getfield 23, 3) := by decide +kernel
theorem dX10_about_66 : decode cX10_about 66 = .ok (.ireturn, 1) := by decide +kernel
theorem dX10_about_67 : decode cX10_about 67 = .ok (.aload_n 0, 1) := by decide +kernel
theorem dX10_about_68 : decode cX10_about 68 = .ok (.getfield 40, 3) := by decide +kernel
theorem dX10_about_71 : decode cX10_about 71 = .ok (.aload_n 0, 1) := by decide +kernel
theorem dX10_about_72 : decode cX10_about 72 = .ok (.getfield 204, 3) := by decide +kernel
theorem dX10_about_75 : decode cX10_about 75 = .ok (.iaload, 1) := by decide +kernel
theorem dX10_about_76 : decode cX10_about 76 = .ok (.ireturn, 1) := by decide +kernel
theorem dX10_about_77 : decode cX10_about 77 = .ok (.aload_n 0, 1) := by decide +kernel
theorem dX10_about_78 : decode cX10_about 78 = .ok (.getfield 283, 3) := by decide +kernel
theorem dX10_about_81 : decode cX10_about 81 = .ok (.ireturn, 1) := by decide +kernel
theorem dX10_about_82 : decode cX10_about 82 = .ok (.aload_n 0, 1) := by decide +kernel
theorem dX10_about_83 : decode cX10_about 83 = .ok (.getfield 286, 3) := by decide +kernel
theorem dX10_about_86 : decode cX10_about 86 = .ok (.ireturn, 1) := by decide +kernel
theorem dX10_about_87 : decode cX10_about 87 = .ok (.aload_n 0, 1) := by decide +kernel
theorem dX10_about_88 : decode cX10_about 88 = .ok (.getfield 305, 3) := by decide +kernel
theorem dX10_about_91 : decode cX10_about 91 = .ok (.ireturn, 1) := by decide +kernel
theorem dX10_about_92 : decode cX10_about 92 = .ok (.aload_n 0, 1) := by decide +kernel
theorem dX10_about_93 : decode cX10_about 93 = .ok (.getfield 312, 3) := by decide +kernel
theorem dX10_about_96 : decode cX10_about 96 = .ok (.ireturn, 1) := by decide +kernel
theorem dX10_about_97 : decode cX10_about 97 = .ok (.aload_n 0, 1) := by decide +kernel
theorem dX10_about_98 : decode cX10_about 98 = .ok (.getfield 201, 3) := by decide +kernel
theorem dX10_about_101 : decode cX10_about 101 = .ok (.ireturn, 1) := by decide +kernel
theorem dX10_about_102 : decode cX10_about 102 = .ok (.iconst (-1), 1) := by decide +kernel
theorem dX10_about_103 : decode cX10_about 103 = .ok (.ireturn, 1) := by decide +kernel
theorem dX10_feed_0 : decode cX10_feed 0 = .ok (.aload_n 0, 1) := by decide +kernel
theorem dX10_feed_1 : decode cX10_feed 1 = .ok (.getfield 201, 3) := by decide +kernel
theorem dX10_feed_4 : decode cX10_feed 4 = .ok (.bipush 20, 2) := by decide +kernel
theorem dX10_feed_6 : decode cX10_feed 6 = .ok (.iadd, 1) := by decide +kernel
theorem dX10_feed_7 : decode cX10_feed 7 = .ok (.sipush 800, 3) := by decide +kernel
theorem dX10_feed_10 : decode cX10_feed 10 = .ok (.if_icmp .le 5, 3) := by decide +kernel
theorem dX10_feed_13 : decode cX10_feed 13 = .ok (.iconst (-1), 1) := by decide +kernel
theorem dX10_feed_14 : decode cX10_feed 14 = .ok (.ireturn, 1) := by decide +kernel
theorem dX10_feed_15 : decode cX10_feed 15 = .ok (.iconst 0, 1) := by decide +kernel
theorem dX10_feed_16 : decode cX10_feed 16 = .ok (.istore 6, 2) := by decide +kernel
theorem dX10_feed_18 : decode cX10_feed 18 = .ok (.iload 6, 2) := by decide +kernel
theorem dX10_feed_20 : decode cX10_feed 20 = .ok (.bipush 20, 2) := by decide +kernel
theorem dX10_feed_22 : decode cX10_feed 22 = .ok (.if_icmp .ge 83, 3) := by decide +kernel
theorem dX10_feed_25 : decode cX10_feed 25 = .ok (.iload 6, 2) := by decide +kernel
theorem dX10_feed_27 : decode cX10_feed 27 = .ok (.iconst 4, 1) := by decide +kernel
theorem dX10_feed_28 : decode cX10_feed 28 = .ok (.if_icmp .ge 7, 3) := by decide +kernel
theorem dX10_feed_31 : decode cX10_feed 31 = .ok (.iload_n 1, 1) := by decide +kernel
theorem dX10_feed_32 : decode cX10_feed 32 = .ok (.goto 39, 3) := by decide +kernel
theorem dX10_feed_35 : decode cX10_feed 35 = .ok (.iload 6, 2) := by decide +kernel
theorem dX10_feed_37 : decode cX10_feed 37 = .ok (.bipush 8, 2) := by decide +kernel
theorem dX10_feed_39 : decode cX10_feed 39 = .ok (.if_icmp .ge 7, 3) := by decide +kernel
theorem dX10_feed_42 : decode cX10_feed 42 = .ok (.iload_n 2, 1) := by decide +kernel
theorem dX10_feed_43 : decode cX10_feed 43 = .ok (.goto 28, 3) := by decide +kernel
theorem dX10_feed_46 : decode cX10_feed 46 = .ok (.iload 6, 2) := by decide +kernel
theorem dX10_feed_48 : decode cX10_feed 48 = .ok (.bipush 12, 2) := by decide +kernel
theorem dX10_feed_50 : decode cX10_feed 50 = .ok (.if_icmp .ge 7, 3) := by decide +kernel
theorem dX10_feed_53 : decode cX10_feed 53 = .ok (.iload_n 3, 1) := by decide +kernel
theorem dX10_feed_54 : decode cX10_feed 54 = .ok (.goto 17, 3) := by decide +kernel
theorem dX10_feed_57 : decode cX10_feed 57 = .ok (.iload 6, 2) := by decide +kernel
theorem dX10_feed_59 : decode cX10_feed 59 = .ok (.bipush 16, 2) := by decide +kernel
theorem dX10_feed_61 : decode cX10_feed 61 = .ok (.if_icmp .ge 8, 3) := by decide +kernel
theorem dX10_feed_64 : decode cX10_feed 64 = .ok (.iload 4, 2) := by decide +kernel
theorem dX10_feed_66 : decode cX10_feed 66 = .ok (.goto 5, 3) := by decide +kernel
theorem dX10_feed_69 : decode cX10_feed 69 = .ok (.iload 5, 2) := by decide +kernel
theorem dX10_feed_71 : decode cX10_feed 71 = .ok (.istore 7, 2) := by decide +kernel
theorem dX10_feed_73 : decode cX10_feed 73 = .ok (.aload_n 0, 1) := by decide +kernel
theorem dX10_feed_74 : decode cX10_feed 74 = .ok (.getfield 30, 3) := by decide +kernel
theorem dX10_feed_77 : decode cX10_feed 77 = .ok (.aload_n 0, 1) := by decide +kernel
theorem dX10_feed_78 : decode cX10_feed 78 = .ok (.getfield 201, 3) := by decide +kernel
theorem dX10_feed_81 : decode cX10_feed 81 = .ok (.iload 6, 2) := by decide +kernel
theorem dX10_feed_83 : decode cX10_feed 83 = .ok (.iadd, 1) := by decide +kernel
theorem dX10_feed_84 : decode cX10_feed 84 = .ok (.iload 7, 2) := by decide +kernel
theorem dX10_feed_86 : decode cX10_feed 86 = .ok (.bipush 24, 2) := by decide +kernel
theorem dX10_feed_88 : decode cX10_feed 88 = .ok (.bipush 8, 2) := by decide +kernel
theorem dX10_feed_90 : decode cX10_feed 90 = .ok (.iload 6, 2) := by decide +kernel
theorem dX10_feed_92 : decode cX10_feed 92 = .ok (.iconst 3, 1) := by decide +kernel
theorem dX10_feed_93 : decode cX10_feed 93 = .ok (.iand, 1) := by decide +kernel
theorem dX10_feed_94 : decode cX10_feed 94 = .ok (.imul, 1) := by decide +kernel
theorem dX10_feed_95 : decode cX10_feed 95 = .ok (.isub, 1) := by decide +kernel
theorem dX10_feed_96 : decode cX10_feed 96 = .ok (.ishr, 1) := by decide +kernel
theorem dX10_feed_97 : decode cX10_feed 97 = .ok (.i2b, 1) := by decide +kernel
theorem dX10_feed_98 : decode cX10_feed 98 = .ok (.bastore, 1) := by decide +kernel
theorem dX10_feed_99 : decode cX10_feed 99 = .ok (.iinc 6 1, 3) := by decide +kernel
theorem dX10_feed_102 : decode cX10_feed 102 = .ok (.goto (-84), 3) := by decide +kernel
theorem dX10_feed_105 : decode cX10_feed 105 = .ok (.aload_n 0, 1) := by decide +kernel
theorem dX10_feed_106 : decode cX10_feed 106 = .ok (.dup, 1) := by decide +kernel
theorem dX10_feed_107 : decode cX10_feed 107 = .ok (.getfield 201, 3) := by decide +kernel
theorem dX10_feed_110 : decode cX10_feed 110 = .ok (.bipush 20, 2) := by decide +kernel
theorem dX10_feed_112 : decode cX10_feed 112 = .ok (.iadd, 1) := by decide +kernel
theorem dX10_feed_113 : decode cX10_feed 113 = .ok (.putfield 201, 3) := by decide +kernel
theorem dX10_feed_116 : decode cX10_feed 116 = .ok (.aload_n 0, 1) := by decide +kernel
theorem dX10_feed_117 : decode cX10_feed 117 = .ok (.getfield 201, 3) := by decide +kernel
theorem dX10_feed_120 : decode cX10_feed 120 = .ok (.ireturn, 1) := by decide +kernel
theorem dX10_end_0 : decode cX10_end 0 = .ok (.iload_n 1, 1) := by decide +kernel
theorem dX10_end_1 : decode cX10_end 1 = .ok (.ifCond .lt 11, 3) := by decide +kernel
theorem dX10_end_4 : decode cX10_end 4 = .ok (.iload_n 1, 1) := by decide +kernel
theorem dX10_end_5 : decode cX10_end 5 = .ok (.aload_n 0, 1) := by decide +kernel
theorem dX10_end_6 : decode cX10_end 6 = .ok (.getfield 201, 3) := by decide +kernel
theorem dX10_end_9 : decode cX10_end 9 = .ok (.if_icmp .le 5, 3) := by decide +kernel
theorem dX10_end_12 : decode cX10_end 12 = .ok (.iconst (-1), 1) := by decide +kernel
theorem dX10_end_13 : decode cX10_end 13 = .ok (.ireturn, 1) := by decide +kernel
theorem dX10_end_14 : decode cX10_end 14 = .ok (.aload_n 0, 1) := by decide +kernel
theorem dX10_end_15 : decode cX10_end 15 = .ok (.iload_n 1, 1) := by decide +kernel
theorem dX10_end_16 : decode cX10_end 16 = .ok (.putfield 201, 3) := by decide +kernel
theorem dX10_end_19 : decode cX10_end 19 = .ok (.iload_n 1, 1) := by decide +kernel
theorem dX10_end_20 : decode cX10_end 20 = .ok (.ireturn, 1) := by decide +kernel
