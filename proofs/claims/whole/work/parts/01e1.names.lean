theorem dX8_grows_41 : decode cX8_grows 41 = .ok (.if_icmp .ne 12, 3) := by decide +kernel
theorem dX8_grows_44 : decode cX8_grows 44 = .ok (.iload_n 2, 1) := by decide +kernel
theorem dX8_grows_45 : decode cX8_grows 45 = .ok (.ifCond .eq 8, 3) := by decide +kernel
theorem dX8_grows_48 : decode cX8_grows 48 = .ok (.bipush (-2), 2) := by decide +kernel
theorem dX8_grows_50 : decode cX8_grows 50 = .ok (.goto 4, 3) := by decide +kernel
theorem dX8_grows_53 : decode cX8_grows 53 = .ok (.iconst 2, 1) := by decide +kernel
theorem dX8_grows_54 : decode cX8_grows 54 = .ok (.ireturn, 1) := by decide +kernel
theorem dX8_does_0 : decode cX8_does 0 = .ok (.aload_n 0, 1) := by decide +kernel
theorem dX8_does_1 : decode cX8_does 1 = .ok (.getfield 16, 3) := by decide +kernel
theorem dX8_does_4 : decode cX8_does 4 = .ok (.iload_n 1, 1) := by decide +kernel
theorem dX8_does_5 : decode cX8_does 5 = .ok (.iconst 2, 1) := by decide +kernel
theorem dX8_does_6 : decode cX8_does 6 = .ok (.iadd, 1) := by decide +kernel
theorem dX8_does_7 : decode cX8_does 7 = .ok (.iload_n 2, 1) := by decide +kernel
theorem dX8_does_8 : decode cX8_does 8 = .ok (.iadd, 1) := by decide +kernel
theorem dX8_does_9 : decode cX8_does 9 = .ok (.iaload, 1) := by decide +kernel
theorem dX8_does_10 : decode cX8_does 10 = .ok (.istore 4, 2) := by decide +kernel
theorem dX8_does_12 : decode cX8_does 12 = .ok (.iload_n 3, 1) := by decide +kernel
theorem dX8_does_13 : decode cX8_does 13 = .ok (.iconst 1, 1) := by decide +kernel
theorem dX8_does_14 : decode cX8_does 14 = .ok (.if_icmp .ne 24, 3) := by decide +kernel
theorem dX8_does_17 : decode cX8_does 17 = .ok (.aload_n 0, 1) := by decide +kernel
theorem dX8_does_18 : decode cX8_does 18 = .ok (.getfield 16, 3) := by decide +kernel
theorem dX8_does_21 : decode cX8_does 21 = .ok (.iload_n 1, 1) := by decide +kernel
theorem dX8_does_22 : decode cX8_does 22 = .ok (.iconst 2, 1) := by decide +kernel
theorem dX8_does_23 : decode cX8_does 23 = .ok (.iadd, 1) := by decide +kernel
theorem dX8_does_24 : decode cX8_does 24 = .ok (.iload_n 2, 1) := by decide +kernel
theorem dX8_does_25 : decode cX8_does 25 = .ok (.iadd, 1) := by decide +kernel
theorem dX8_does_26 : decode cX8_does 26 = .ok (.iconst 0, 1) := by decide +kernel
theorem dX8_does_27 : decode cX8_does 27 = .ok (.iload 4, 2) := by decide +kernel
theorem dX8_does_29 : decode cX8_does 29 = .ok (.iconst 2, 1) := by decide +kernel
theorem dX8_does_30 : decode cX8_does 30 = .ok (.isub, 1) := by decide +kernel
theorem dX8_does_31 : decode cX8_does 31 = .ok (.invokestatic 133, 3) := by decide +kernel
theorem dX8_does_34 : decode cX8_does 34 = .ok (.iastore, 1) := by decide +kernel
theorem dX8_does_35 : decode cX8_does 35 = .ok (.goto 173, 3) := by decide +kernel
theorem dX8_does_38 : decode cX8_does 38 = .ok (.iload_n 3, 1) := by decide +kernel
theorem dX8_does_39 : decode cX8_does 39 = .ok (.iconst 2, 1) := by decide +kernel
theorem dX8_does_40 : decode cX8_does 40 = .ok (.if_icmp .ne 74, 3) := by decide +kernel
theorem dX8_does_43 : decode cX8_does 43 = .ok (.aload_n 0, 1) := by decide +kernel
theorem dX8_does_44 : decode cX8_does 44 = .ok (.getfield 16, 3) := by decide +kernel
theorem dX8_does_47 : decode cX8_does 47 = .ok (.iload_n 1, 1) := by decide +kernel
theorem dX8_does_48 : decode cX8_does 48 = .ok (.bipush 6, 2) := by decide +kernel
theorem dX8_does_50 : decode cX8_does 50 = .ok (.iadd, 1) := by decide +kernel
theorem dX8_does_51 : decode cX8_does 51 = .ok (.iload_n 2, 1) := by decide +kernel
theorem dX8_does_52 : decode cX8_does 52 = .ok (.iadd, 1) := by decide +kernel
theorem dX8_does_53 : decode cX8_does 53 = .ok (.iaload, 1) := by decide +kernel
theorem dX8_does_54 : decode cX8_does 54 = .ok (.iconst 3, 1) := by decide +kernel
theorem dX8_does_55 : decode cX8_does 55 = .ok (.if_icmp .lt 59, 3) := by decide +kernel
theorem dX8_does_58 : decode cX8_does 58 = .ok (.aload_n 0, 1) := by decide +kernel
theorem dX8_does_59 : decode cX8_does 59 = .ok (.getfield 16, 3) := by decide +kernel
theorem dX8_does_62 : decode cX8_does 62 = .ok (.iload_n 1, 1) := by decide +kernel
theorem dX8_does_63 : decode cX8_does 63 = .ok (.bipush 6, 2) := by decide +kernel
theorem dX8_does_65 : decode cX8_does 65 = .ok (.iadd, 1) := by decide +kernel
theorem dX8_does_66 : decode cX8_does 66 = .ok (.iload_n 2, 1) := by decide +kernel
theorem dX8_does_67 : decode cX8_does 67 = .ok (.iadd, 1) := by decide +kernel
theorem dX8_does_68 : decode cX8_does 68 = .ok (.dup2, 1) := by decide +kernel
theorem dX8_does_69 : decode cX8_does 69 = .ok (.iaload, 1) := by decide +kernel
theorem dX8_does_70 : decode cX8_does 70 = .ok (.iconst 3, 1) := by decide +kernel
theorem dX8_does_71 : decode cX8_does 71 = .ok (.isub, 1) := by decide +kernel
theorem dX8_does_72 : decode cX8_does 72 = .ok (.iastore, 1) := by decide +kernel
theorem dX8_does_73 : decode cX8_does 73 = .ok (.aload_n 0, 1) := by decide +kernel
theorem dX8_does_74 : decode cX8_does 74 = .ok (.getfield 16, 3) := by decide +kernel
theorem dX8_does_77 : decode cX8_does 77 = .ok (.iload_n 1, 1) := by decide +kernel
theorem dX8_does_78 : decode cX8_does 78 = .ok (.iconst 2, 1) := by decide +kernel
theorem dX8_does_79 : decode cX8_does 79 = .ok (.iadd, 1) := by decide +kernel
theorem dX8_does_80 : decode cX8_does 80 = .ok (.iload_n 2, 1) := by decide +kernel
theorem dX8_does_81 : decode cX8_does 81 = .ok (.iadd, 1) := by decide +kernel
theorem dX8_does_82 : decode cX8_does 82 = .ok (.iload 4, 2) := by decide +kernel
theorem dX8_does_84 : decode cX8_does 84 = .ok (.iconst 3, 1) := by decide +kernel
theorem dX8_does_85 : decode cX8_does 85 = .ok (.if_icmp .ge 14, 3) := by decide +kernel
theorem dX8_does_88 : decode cX8_does 88 = .ok (.iconst 0, 1) := by decide +kernel
theorem dX8_does_89 : decode cX8_does 89 = .ok (.iload 4, 2) := by decide +kernel
theorem dX8_does_91 : decode cX8_does 91 = .ok (.iconst 1, 1) := by decide +kernel
theorem dX8_does_92 : decode cX8_does 92 = .ok (.isub, 1) := by decide +kernel
theorem dX8_does_93 : decode cX8_does 93 = .ok (.invokestatic 133, 3) := by decide +kernel
theorem dX8_does_96 : decode cX8_does 96 = .ok (.goto 5, 3) := by decide +kernel
theorem dX8_does_99 : decode cX8_does 99 = .ok (.iload 4, 2) := by decide +kernel
theorem dX8_does_101 : decode cX8_does 101 = .ok (.iastore, 1) := by decide +kernel
theorem dX8_does_102 : decode cX8_does 102 = .ok (.iload 4, 2) := by decide +kernel
theorem dX8_does_104 : decode cX8_does 104 = .ok (.iconst 3, 1) := by decide +kernel
theorem dX8_does_105 : decode cX8_does 105 = .ok (.if_icmp .ge 7, 3) := by decide +kernel
theorem dX8_does_108 : decode cX8_does 108 = .ok (.iconst 0, 1) := by decide +kernel
theorem dX8_does_109 : decode cX8_does 109 = .ok (.goto 4, 3) := by decide +kernel
theorem dX8_does_112 : decode cX8_does 112 = .ok (.iconst 2, 1) := by decide +kernel
theorem dX8_does_113 : decode cX8_does 113 = .ok (.ireturn, 1) := by decide +kernel
theorem dX8_does_114 : decode cX8_does 114 = .ok (.iload_n 3, 1) := by decide +kernel
theorem dX8_does_115 : decode cX8_does 115 = .ok (.iconst 3, 1) := by decide +kernel
theorem dX8_does_116 : decode cX8_does 116 = .ok (.if_icmp .ne 61, 3) := by decide +kernel
theorem dX8_does_119 : decode cX8_does 119 = .ok (.aload_n 0, 1) := by decide +kernel
theorem dX8_does_120 : decode cX8_does 120 = .ok (.getfield 16, 3) := by decide +kernel
theorem dX8_does_123 : decode cX8_does 123 = .ok (.iload_n 1, 1) := by decide +kernel
theorem dX8_does_124 : decode cX8_does 124 = .ok (.bipush 6, 2) := by decide +kernel
theorem dX8_does_126 : decode cX8_does 126 = .ok (.iadd, 1) := by decide +kernel
theorem dX8_does_127 : decode cX8_does 127 = .ok (.iload_n 2, 1) := by decide +kernel
theorem dX8_does_128 : decode cX8_does 128 = .ok (.iadd, 1) := by decide +kernel
theorem dX8_does_129 : decode cX8_does 129 = .ok (.iaload, 1) := by decide +kernel
theorem dX8_does_130 : decode cX8_does 130 = .ok (.iconst 1, 1) := by decide +kernel
theorem dX8_does_131 : decode cX8_does 131 = .ok (.if_icmp .lt 46, 3) := by decide +kernel
theorem dX8_does_134 : decode cX8_does 134 = .ok (.aload_n 0, 1) := by decide +kernel
theorem dX8_does_135 : decode cX8_does 135 = .ok (.getfield 16, 3) := by decide +kernel
theorem dX8_does_138 : decode cX8_does 138 = .ok (.iload_n 1, 1) := by decide +kernel
theorem dX8_does_139 : decode cX8_does 139 = .ok (.bipush 10, 2) := by decide +kernel
theorem dX8_does_141 : decode cX8_does 141 = .ok (.iadd, 1) := by decide +kernel
theorem dX8_does_142 : decode cX8_does 142 = .ok (.iaload, 1) := by decide +kernel
theorem dX8_does_143 : decode cX8_does 143 = .ok (.iconst 1, 1) := by decide +kernel
theorem dX8_does_144 : decode cX8_does 144 = .ok (.if_icmp .lt 33, 3) := by decide +kernel
theorem dX8_does_147 : decode cX8_does 147 = .ok (.aload_n 0, 1) := by decide +kernel
theorem dX8_does_148 : decode cX8_does 148 = .ok (.getfield 16, 3) := by decide +kernel
theorem dX8_does_151 : decode cX8_does 151 = .ok (.iload_n 1, 1) := by decide +kernel
theorem dX8_does_152 : decode cX8_does 152 = .ok (.bipush 6, 2) := by decide +kernel
theorem dX8_does_154 : decode cX8_does 154 = .ok (.iadd, 1) := by decide +kernel
theorem dX8_does_155 : decode cX8_does 155 = .ok (.iload_n 2, 1) := by decide +kernel
theorem dX8_does_156 : decode cX8_does 156 = .ok (.iadd, 1) := by decide +kernel
theorem dX8_does_157 : decode cX8_does 157 = .ok (.dup2, 1) := by decide +kernel
theorem dX8_does_158 : decode cX8_does 158 = .ok (.iaload, 1) := by decide +kernel
theorem dX8_does_159 : decode cX8_does 159 = .ok (.iconst 1, 1) := by decide +kernel
theorem dX8_does_160 : decode cX8_does 160 = .ok (.isub, 1) := by decide +kernel
theorem dX8_does_161 : decode cX8_does 161 = .ok (.iastore, 1) := by decide +kernel
theorem dX8_does_162 : decode cX8_does 162 = .ok (.aload_n 0, 1) := by decide +kernel
theorem dX8_does_163 : decode cX8_does 163 = .ok (.getfield 16, 3) := by decide +kernel
theorem dX8_does_166 : decode cX8_does 166 = .ok (.iload_n 1, 1) := by decide +kernel
theorem dX8_does_167 : decode cX8_does 167 = .ok (.bipush 10, 2) := by decide +kernel
theorem dX8_does_169 : decode cX8_does 169 = .ok (.iadd, 1) := by decide +kernel
theorem dX8_does_170 : decode cX8_does 170 = .ok (.dup2, 1) := by decide +kernel
theorem dX8_does_171 : decode cX8_does 171 = .ok (.iaload, 1) := by decide +kernel
theorem dX8_does_172 : decode cX8_does 172 = .ok (.iconst 1, 1) := by decide +kernel
theorem dX8_does_173 : decode cX8_does 173 = .ok (.isub, 1) := by decide +kernel
theorem dX8_does_174 : decode cX8_does 174 = .ok (.iastore, 1) := by decide +kernel
theorem dX8_does_175 : decode cX8_does 175 = .ok (.iconst 1, 1) := by decide +kernel
theorem dX8_does_176 : decode cX8_does 176 = .ok (.ireturn, 1) := by decide +kernel
theorem dX8_does_177 : decode cX8_does 177 = .ok (.iload_n 3, 1) := by decide +kernel
theorem dX8_does_178 : decode cX8_does 178 = .ok (.iconst 4, 1) := by decide +kernel
theorem dX8_does_179 : decode cX8_does 179 = .ok (.if_icmp .ne 29, 3) := by decide +kernel
theorem dX8_does_182 : decode cX8_does 182 = .ok (.aload_n 0, 1) := by decide +kernel
theorem dX8_does_183 : decode cX8_does 183 = .ok (.getfield 16, 3) := by decide +kernel
theorem dX8_does_186 : decode cX8_does 186 = .ok (.iload_n 1, 1) := by decide +kernel
theorem dX8_does_187 : decode cX8_does 187 = .ok (.iconst 4, 1) := by decide +kernel
theorem dX8_does_188 : decode cX8_does 188 = .ok (.iadd, 1) := by decide +kernel
theorem dX8_does_189 : decode cX8_does 189 = .ok (.iload_n 2, 1) := by decide +kernel
theorem dX8_does_190 : decode cX8_does 190 = .ok (.iadd, 1) := by decide +kernel
theorem dX8_does_191 : decode cX8_does 191 = .ok (.iconst 3, 1) := by decide +kernel
theorem dX8_does_192 : decode cX8_does 192 = .ok (.aload_n 0, 1) := by decide +kernel
theorem dX8_does_193 : decode cX8_does 193 = .ok (.getfield 16, 3) := by decide +kernel
theorem dX8_does_196 : decode cX8_does 196 = .ok (.iload_n 1, 1) := by decide +kernel
theorem dX8_does_197 : decode cX8_does 197 = .ok (.iconst 4, 1) := by decide +kernel
theorem dX8_does_198 : decode cX8_does 198 = .ok (.iadd, 1) := by decide +kernel
theorem dX8_does_199 : decode cX8_does 199 = .ok (.iload_n 2, 1) := by decide +kernel
theorem dX8_does_200 : decode cX8_does 200 = .ok (.iadd, 1) := by decide +kernel
theorem dX8_does_201 : decode cX8_does 201 = .ok (.iaload, 1) := by decide +kernel
theorem dX8_does_202 : decode cX8_does 202 = .ok (.iconst 1, 1) := by decide +kernel
theorem dX8_does_203 : decode cX8_does 203 = .ok (.iadd, 1) := by decide +kernel
theorem dX8_does_204 : decode cX8_does 204 = .ok (.invokestatic 136, 3) := by decide +kernel
theorem dX8_does_207 : decode cX8_does 207 = .ok (.iastore, 1) := by decide +kernel
theorem dX8_does_208 : decode cX8_does 208 = .ok (.iconst 0, 1) := by decide +kernel
theorem dX8_does_209 : decode cX8_does 209 = .ok (.ireturn, 1) := by decide +kernel
theorem dX8_rises_0 : decode cX8_rises 0 = .ok (.aload_n 0, 1) := by decide +kernel
theorem dX8_rises_1 : decode cX8_rises 1 = .ok (.getfield 16, 3) := by decide +kernel
theorem dX8_rises_4 : decode cX8_rises 4 = .ok (.iload_n 1, 1) := by decide +kernel
theorem dX8_rises_5 : decode cX8_rises 5 = .ok (.iload_n 2, 1) := by decide +kernel
theorem dX8_rises_6 : decode cX8_rises 6 = .ok (.iadd, 1) := by decide +kernel
theorem dX8_rises_7 : decode cX8_rises 7 = .ok (.iaload, 1) := by decide +kernel
theorem dX8_rises_8 : decode cX8_rises 8 = .ok (.istore 5, 2) := by decide +kernel
theorem dX8_rises_10 : decode cX8_rises 10 = .ok (.aload_n 0, 1) := by decide +kernel
theorem dX8_rises_11 : decode cX8_rises 11 = .ok (.getfield 16, 3) := by decide +kernel
theorem dX8_rises_14 : decode cX8_rises 14 = .ok (.iload_n 1, 1) := by decide +kernel
theorem dX8_rises_15 : decode cX8_rises 15 = .ok (.iconst 2, 1) := by decide +kernel
theorem dX8_rises_16 : decode cX8_rises 16 = .ok (.iadd, 1) := by decide +kernel
theorem dX8_rises_17 : decode cX8_rises 17 = .ok (.iload_n 2, 1) := by decide +kernel
theorem dX8_rises_18 : decode cX8_rises 18 = .ok (.iadd, 1) := by decide +kernel
theorem dX8_rises_19 : decode cX8_rises 19 = .ok (.iaload, 1) := by decide +kernel
theorem dX8_rises_20 : decode cX8_rises 20 = .ok (.istore 6, 2) := by decide +kernel
theorem dX8_rises_22 : decode cX8_rises 22 = .ok (.iload 6, 2) := by decide +kernel
theorem dX8_rises_24 : decode cX8_rises 24 = .ok (.iload 5, 2) := by decide +kernel
theorem dX8_rises_26 : decode cX8_rises 26 = .ok (.invokestatic 139, 3) := by decide +kernel
theorem dX8_rises_29 : decode cX8_rises 29 = .ok (.if_icmp .gt 13, 3) := by decide +kernel
theorem dX8_rises_32 : decode cX8_rises 32 = .ok (.iload 4, 2) := by decide +kernel
theorem dX8_rises_34 : decode cX8_rises 34 = .ok (.ifCond .eq 12, 3) := by decide +kernel
theorem dX8_rises_37 : decode cX8_rises 37 = .ok (.iload_n 3, 1) := by decide +kernel
theorem dX8_rises_38 : decode cX8_rises 38 = .ok (.iconst 1, 1) := by decide +kernel
theorem dX8_rises_39 : decode cX8_rises 39 = .ok (.if_icmp .eq 7, 3) := by decide +kernel
theorem dX8_rises_42 : decode cX8_rises 42 = .ok (.iconst 1, 1) := by decide +kernel
theorem dX8_rises_43 : decode cX8_rises 43 = .ok (.goto 4, 3) := by decide +kernel
theorem dX8_rises_46 : decode cX8_rises 46 = .ok (.iconst 0, 1) := by decide +kernel
theorem dX8_rises_47 : decode cX8_rises 47 = .ok (.istore 7, 2) := by decide +kernel
theorem dX8_rises_49 : decode cX8_rises 49 = .ok (.iload 6, 2) := by decide +kernel
theorem dX8_rises_51 : decode cX8_rises 51 = .ok (.iload 5, 2) := by decide +kernel
theorem dX8_rises_53 : decode cX8_rises 53 = .ok (.aload_n 0, 1) := by decide +kernel
theorem dX8_rises_54 : decode cX8_rises 54 = .ok (.getfield 16, 3) := by decide +kernel
theorem dX8_rises_57 : decode cX8_rises 57 = .ok (.iload_n 1, 1) := by decide +kernel
theorem dX8_rises_58 : decode cX8_rises 58 = .ok (.bipush 11, 2) := by decide +kernel
theorem dX8_rises_60 : decode cX8_rises 60 = .ok (.iadd, 1) := by decide +kernel
theorem dX8_rises_61 : decode cX8_rises 61 = .ok (.iaload, 1) := by decide +kernel
theorem dX8_rises_62 : decode cX8_rises 62 = .ok (.bipush 12, 2) := by decide +kernel
theorem dX8_rises_64 : decode cX8_rises 64 = .ok (.irem, 1) := by decide +kernel
theorem dX8_rises_65 : decode cX8_rises 65 = .ok (.invokestatic 142, 3) := by decide +kernel
theorem dX8_rises_68 : decode cX8_rises 68 = .ok (.iadd, 1) := by decide +kernel
theorem dX8_rises_69 : decode cX8_rises 69 = .ok (.iload_n 3, 1) := by decide +kernel
theorem dX8_rises_70 : decode cX8_rises 70 = .ok (.iadd, 1) := by decide +kernel
theorem dX8_rises_71 : decode cX8_rises 71 = .ok (.istore 8, 2) := by decide +kernel
theorem dX8_rises_73 : decode cX8_rises 73 = .ok (.aload_n 0, 1) := by decide +kernel
theorem dX8_rises_74 : decode cX8_rises 74 = .ok (.getfield 16, 3) := by decide +kernel
theorem dX8_rises_77 : decode cX8_rises 77 = .ok (.iload_n 1, 1) := by decide +kernel
theorem dX8_rises_78 : decode cX8_rises 78 = .ok (.iconst 2, 1) := by decide +kernel
theorem dX8_rises_79 : decode cX8_rises 79 = .ok (.iadd, 1) := by decide +kernel
theorem dX8_rises_80 : decode cX8_rises 80 = .ok (.iload_n 2, 1) := by decide +kernel
theorem dX8_rises_81 : decode cX8_rises 81 = .ok (.iadd, 1) := by decide +kernel
theorem dX8_rises_82 : decode cX8_rises 82 = .ok (.iload 7, 2) := by decide +kernel
theorem dX8_rises_84 : decode cX8_rises 84 = .ok (.ifCond .eq 8, 3) := by decide +kernel
theorem dX8_rises_87 : decode cX8_rises 87 = .ok (.iload 6, 2) := by decide +kernel
theorem dX8_rises_89 : decode cX8_rises 89 = .ok (.goto 17, 3) := by decide +kernel
theorem dX8_rises_92 : decode cX8_rises 92 = .ok (.iconst 0, 1) := by decide +kernel
theorem dX8_rises_93 : decode cX8_rises 93 = .ok (.iload 5, 2) := by decide +kernel
theorem dX8_rises_95 : decode cX8_rises 95 = .ok (.invokestatic 139, 3) := by decide +kernel
theorem dX8_rises_98 : decode cX8_rises 98 = .ok (.iload 8, 2) := by decide +kernel
theorem dX8_rises_100 : decode cX8_rises 100 = .ok (.invokestatic 136, 3) := by decide +kernel
theorem dX8_rises_103 : decode cX8_rises 103 = .ok (.invokestatic 133, 3) := by decide +kernel
theorem dX8_rises_106 : decode cX8_rises 106 = .ok (.iastore, 1) := by decide +kernel
theorem dX8_rises_107 : decode cX8_rises 107 = .ok (.return_, 1) := by decide +kernel
theorem dX8_goes_0 : decode cX8_goes 0 = .ok (.aload_n 0, 1) := by decide +kernel
theorem dX8_goes_1 : decode cX8_goes 1 = .ok (.getfield 16, 3) := by decide +kernel
theorem dX8_goes_4 : decode cX8_goes 4 = .ok (.iload_n 1, 1) := by decide +kernel
theorem dX8_goes_5 : decode cX8_goes 5 = .ok (.bipush 12, 2) := by decide +kernel
theorem dX8_goes_7 : decode cX8_goes 7 = .ok (.iadd, 1) := by decide +kernel
theorem dX8_goes_8 : decode cX8_goes 8 = .ok (.iaload, 1) := by decide +kernel
theorem dX8_goes_9 : decode cX8_goes 9 = .ok (.ifCond .lt 5, 3) := by decide +kernel
theorem dX8_goes_12 : decode cX8_goes 12 = .ok (.iconst 0, 1) := by decide +kernel
theorem dX8_goes_13 : decode cX8_goes 13 = .ok (.ireturn, 1) := by decide +kernel
theorem dX8_goes_14 : decode cX8_goes 14 = .ok (.aload_n 0, 1) := by decide +kernel
theorem dX8_goes_15 : decode cX8_goes 15 = .ok (.iload_n 1, 1) := by decide +kernel
theorem dX8_goes_16 : decode cX8_goes 16 = .ok (.iconst 0, 1) := by decide +kernel
theorem dX8_goes_17 : decode cX8_goes 17 = .ok (.iload_n 2, 1) := by decide +kernel
theorem dX8_goes_18 : decode cX8_goes 18 = .ok (.invokevirtual 145, 3) := by decide +kernel
theorem dX8_goes_21 : decode cX8_goes 21 = .ok (.istore 5, 2) := by decide +kernel
theorem dX8_goes_23 : decode cX8_goes 23 = .ok (.aload_n 0, 1) := by decide +kernel
theorem dX8_goes_24 : decode cX8_goes 24 = .ok (.iload_n 1, 1) := by decide +kernel
theorem dX8_goes_25 : decode cX8_goes 25 = .ok (.iconst 1, 1) := by decide +kernel
theorem dX8_goes_26 : decode cX8_goes 26 = .ok (.iload_n 3, 1) := by decide +kernel
theorem dX8_goes_27 : decode cX8_goes 27 = .ok (.invokevirtual 145, 3) := by decide +kernel
theorem dX8_goes_30 : decode cX8_goes 30 = .ok (.istore 6, 2) := by decide +kernel
theorem dX8_goes_32 : decode cX8_goes 32 = .ok (.aload_n 0, 1) := by decide +kernel
theorem dX8_goes_33 : decode cX8_goes 33 = .ok (.iload_n 1, 1) := by decide +kernel
theorem dX8_goes_34 : decode cX8_goes 34 = .ok (.iconst 0, 1) := by decide +kernel
theorem dX8_goes_35 : decode cX8_goes 35 = .ok (.iload 5, 2) := by decide +kernel
theorem dX8_goes_37 : decode cX8_goes 37 = .ok (.iload 4, 2) := by decide +kernel
theorem dX8_goes_39 : decode cX8_goes 39 = .ok (.invokevirtual 149, 3) := by decide +kernel
theorem dX8_goes_42 : decode cX8_goes 42 = .ok (.aload_n 0, 1) := by decide +kernel
theorem dX8_goes_43 : decode cX8_goes 43 = .ok (.iload_n 1, 1) := by decide +kernel
theorem dX8_goes_44 : decode cX8_goes 44 = .ok (.iconst 1, 1) := by decide +kernel
theorem dX8_goes_45 : decode cX8_goes 45 = .ok (.iload 6, 2) := by decide +kernel
theorem dX8_goes_47 : decode cX8_goes 47 = .ok (.iload 4, 2) := by decide +kernel
theorem dX8_goes_49 : decode cX8_goes 49 = .ok (.invokevirtual 149, 3) := by decide +kernel
theorem dX8_goes_52 : decode cX8_goes 52 = .ok (.iconst 0, 1) := by decide +kernel
theorem dX8_goes_53 : decode cX8_goes 53 = .ok (.istore 7, 2) := by decide +kernel
theorem dX8_goes_55 : decode cX8_goes 55 = .ok (.iconst 0, 1) := by decide +kernel
theorem dX8_goes_56 : decode cX8_goes 56 = .ok (.istore 8, 2) := by decide +kernel
theorem dX8_goes_58 : decode cX8_goes 58 = .ok (.iload 8, 2) := by decide +kernel
theorem dX8_goes_60 : decode cX8_goes 60 = .ok (.iconst 2, 1) := by decide +kernel
theorem dX8_goes_61 : decode cX8_goes 61 = .ok (.if_icmp .ge 71, 3) := by decide +kernel
theorem dX8_goes_64 : decode cX8_goes 64 = .ok (.aload_n 0, 1) := by decide +kernel
theorem dX8_goes_65 : decode cX8_goes 65 = .ok (.iload_n 1, 1) := by decide +kernel
theorem dX8_goes_66 : decode cX8_goes 66 = .ok (.iload 8, 2) := by decide +kernel
theorem dX8_goes_68 : decode cX8_goes 68 = .ok (.invokevirtual 127, 3) := by decide +kernel
theorem dX8_goes_71 : decode cX8_goes 71 = .ok (.istore 9, 2) := by decide +kernel
theorem dX8_goes_73 : decode cX8_goes 73 = .ok (.iload 7, 2) := by decide +kernel
theorem dX8_goes_75 : decode cX8_goes 75 = .ok (.iload 9, 2) := by decide +kernel
theorem dX8_goes_77 : decode cX8_goes 77 = .ok (.ifCond .eq 10, 3) := by decide +kernel
theorem dX8_goes_80 : decode cX8_goes 80 = .ok (.iconst 1, 1) := by decide +kernel
theorem dX8_goes_81 : decode cX8_goes 81 = .ok (.iload 8, 2) := by decide +kernel
theorem dX8_goes_83 : decode cX8_goes 83 = .ok (.ishl, 1) := by decide +kernel
theorem dX8_goes_84 : decode cX8_goes 84 = .ok (.goto 4, 3) := by decide +kernel
theorem dX8_goes_87 : decode cX8_goes 87 = .ok (.iconst 0, 1) := by decide +kernel
theorem dX8_goes_88 : decode cX8_goes 88 = .ok (.ior, 1) := by decide +kernel
theorem dX8_goes_89 : decode cX8_goes 89 = .ok (.istore 7, 2) := by decide +kernel
theorem dX8_goes_91 : decode cX8_goes 91 = .ok (.aload_n 0, 1) := by decide +kernel
theorem dX8_goes_92 : decode cX8_goes 92 = .ok (.getfield 16, 3) := by decide +kernel
theorem dX8_goes_95 : decode cX8_goes 95 = .ok (.iload_n 1, 1) := by decide +kernel
theorem dX8_goes_96 : decode cX8_goes 96 = .ok (.bipush 8, 2) := by decide +kernel
theorem dX8_goes_98 : decode cX8_goes 98 = .ok (.iadd, 1) := by decide +kernel
theorem dX8_goes_99 : decode cX8_goes 99 = .ok (.iload 8, 2) := by decide +kernel
theorem dX8_goes_101 : decode cX8_goes 101 = .ok (.iadd, 1) := by decide +kernel
theorem dX8_goes_102 : decode cX8_goes 102 = .ok (.iload 9, 2) := by decide +kernel
theorem dX8_goes_104 : decode cX8_goes 104 = .ok (.ifCond .eq 20, 3) := by decide +kernel
theorem dX8_goes_107 : decode cX8_goes 107 = .ok (.aload_n 0, 1) := by decide +kernel
theorem dX8_goes_108 : decode cX8_goes 108 = .ok (.getfield 16, 3) := by decide +kernel
theorem dX8_goes_111 : decode cX8_goes 111 = .ok (.iload_n 1, 1) := by decide +kernel
theorem dX8_goes_112 : decode cX8_goes 112 = .ok (.bipush 8, 2) := by decide +kernel
theorem dX8_goes_114 : decode cX8_goes 114 = .ok (.iadd, 1) := by decide +kernel
theorem dX8_goes_115 : decode cX8_goes 115 = .ok (.iload 8, 2) := by decide +kernel
theorem dX8_goes_117 : decode cX8_goes 117 = .ok (.iadd, 1) := by decide +kernel
theorem dX8_goes_118 : decode cX8_goes 118 = .ok (.iaload, 1) := by decide +kernel
theorem dX8_goes_119 : decode cX8_goes 119 = .ok (.iconst 1, 1) := by decide +kernel
theorem dX8_goes_120 : decode cX8_goes 120 = .ok (.iadd, 1) := by decide +kernel
theorem dX8_goes_121 : decode cX8_goes 121 = .ok (.goto 4, 3) := by decide +kernel
theorem dX8_goes_124 : decode cX8_goes 124 = .ok (.iconst 0, 1) := by decide +kernel
theorem dX8_goes_125 : decode cX8_goes 125 = .ok (.iastore, 1) := by decide +kernel
theorem dX8_goes_126 : decode cX8_goes 126 = .ok (.iinc 8 1, 3) := by decide +kernel
theorem dX8_goes_129 : decode cX8_goes 129 = .ok (.goto (-71), 3) := by decide +kernel
theorem dX8_goes_132 : decode cX8_goes 132 = .ok (.iconst 0, 1) := by decide +kernel
theorem dX8_goes_133 : decode cX8_goes 133 = .ok (.istore 8, 2) := by decide +kernel
theorem dX8_goes_135 : decode cX8_goes 135 = .ok (.iload 8, 2) := by decide +kernel
theorem dX8_goes_137 : decode cX8_goes 137 = .ok (.iconst 2, 1) := by decide +kernel
theorem dX8_goes_138 : decode cX8_goes 138 = .ok (.if_icmp .ge 51, 3) := by decide +kernel
theorem dX8_goes_141 : decode cX8_goes 141 = .ok (.aload_n 0, 1) := by decide +kernel
theorem dX8_goes_142 : decode cX8_goes 142 = .ok (.getfield 16, 3) := by decide +kernel
theorem dX8_goes_145 : decode cX8_goes 145 = .ok (.iload_n 1, 1) := by decide +kernel
theorem dX8_goes_146 : decode cX8_goes 146 = .ok (.bipush 12, 2) := by decide +kernel
theorem dX8_goes_148 : decode cX8_goes 148 = .ok (.iadd, 1) := by decide +kernel
theorem dX8_goes_149 : decode cX8_goes 149 = .ok (.aload_n 0, 1) := by decide +kernel
theorem dX8_goes_150 : decode cX8_goes 150 = .ok (.getfield 16, 3) := by decide +kernel
theorem dX8_goes_153 : decode cX8_goes 153 = .ok (.iload_n 1, 1) := by decide +kernel
theorem dX8_goes_154 : decode cX8_goes 154 = .ok (.bipush 8, 2) := by decide +kernel
theorem dX8_goes_156 : decode cX8_goes 156 = .ok (.iadd, 1) := by decide +kernel
theorem dX8_goes_157 : decode cX8_goes 157 = .ok (.iload 8, 2) := by decide +kernel
theorem dX8_goes_159 : decode cX8_goes 159 = .ok (.iadd, 1) := by decide +kernel
theorem dX8_goes_160 : decode cX8_goes 160 = .ok (.iaload, 1) := by decide +kernel
theorem dX8_goes_161 : decode cX8_goes 161 = .ok (.aload_n 0, 1) := by decide +kernel
theorem dX8_goes_162 : decode cX8_goes 162 = .ok (.getfield 39, 3) := by decide +kernel
theorem dX8_goes_165 : decode cX8_goes 165 = .ok (.if_icmp .lt 8, 3) := by decide +kernel
theorem dX8_goes_168 : decode cX8_goes 168 = .ok (.iload 8, 2) := by decide +kernel
theorem dX8_goes_170 : decode cX8_goes 170 = .ok (.goto 12, 3) := by decide +kernel
theorem dX8_goes_173 : decode cX8_goes 173 = .ok (.aload_n 0, 1) := by decide +kernel
theorem dX8_goes_174 : decode cX8_goes 174 = .ok (.getfield 16, 3) := by decide +kernel
theorem dX8_goes_177 : decode cX8_goes 177 = .ok (.iload_n 1, 1) := by decide +kernel
theorem dX8_goes_178 : decode cX8_goes 178 = .ok (.bipush 12, 2) := by decide +kernel
theorem dX8_goes_180 : decode cX8_goes 180 = .ok (.iadd, 1) := by decide +kernel
theorem dX8_goes_181 : decode cX8_goes 181 = .ok (.iaload, 1) := by decide +kernel
theorem dX8_goes_182 : decode cX8_goes 182 = .ok (.iastore, 1) := by decide +kernel
theorem dX8_goes_183 : decode cX8_goes 183 = .ok (.iinc 8 1, 3) := by decide +kernel
theorem dX8_goes_186 : decode cX8_goes 186 = .ok (.goto (-51), 3) := by decide +kernel
theorem dX8_goes_189 : decode cX8_goes 189 = .ok (.aload_n 0, 1) := by decide +kernel
theorem dX8_goes_190 : decode cX8_goes 190 = .ok (.getfield 16, 3) := by decide +kernel
theorem dX8_goes_193 : decode cX8_goes 193 = .ok (.iload_n 1, 1) := by decide +kernel
theorem dX8_goes_194 : decode cX8_goes 194 = .ok (.bipush 11, 2) := by decide +kernel
theorem dX8_goes_196 : decode cX8_goes 196 = .ok (.iadd, 1) := by decide +kernel
theorem dX8_goes_197 : decode cX8_goes 197 = .ok (.dup2, 1) := by decide +kernel
theorem dX8_goes_198 : decode cX8_goes 198 = .ok (.iaload, 1) := by decide +kernel
theorem dX8_goes_199 : decode cX8_goes 199 = .ok (.iconst 1, 1) := by decide +kernel
theorem dX8_goes_200 : decode cX8_goes 200 = .ok (.iadd, 1) := by decide +kernel
theorem dX8_goes_201 : decode cX8_goes 201 = .ok (.iastore, 1) := by decide +kernel
theorem dX8_goes_202 : decode cX8_goes 202 = .ok (.iload 7, 2) := by decide +kernel
theorem dX8_goes_204 : decode cX8_goes 204 = .ok (.ireturn, 1) := by decide +kernel
theorem dX8_isDryNow_0 : decode cX8_isDryNow 0 = .ok (.aload_n 0, 1) := by decide +kernel
theorem dX8_isDryNow_1 : decode cX8_isDryNow 1 = .ok (.getfield 42, 3) := by decide +kernel
theorem dX8_isDryNow_4 : decode cX8_isDryNow 4 = .ok (.aload_n 0, 1) := by decide +kernel
theorem dX8_isDryNow_5 : decode cX8_isDryNow 5 = .ok (.getfield 16, 3) := by decide +kernel
theorem dX8_isDryNow_8 : decode cX8_isDryNow 8 = .ok (.iload_n 1, 1) := by decide +kernel
theorem dX8_isDryNow_9 : decode cX8_isDryNow 9 = .ok (.bipush 11, 2) := by decide +kernel
theorem dX8_isDryNow_11 : decode cX8_isDryNow 11 = .ok (.iadd, 1) := by decide +kernel
theorem dX8_isDryNow_12 : decode cX8_isDryNow 12 = .ok (.iaload, 1) := by decide +kernel
theorem dX8_isDryNow_13 : decode cX8_isDryNow 13 = .ok (.bipush 12, 2) := by decide +kernel
theorem dX8_isDryNow_15 : decode cX8_isDryNow 15 = .ok (.irem, 1) := by decide +kernel
theorem dX8_isDryNow_16 : decode cX8_isDryNow 16 = .ok (.ishr, 1) := by decide +kernel
theorem dX8_isDryNow_17 : decode cX8_isDryNow 17 = .ok (.iconst 1, 1) := by decide +kernel
theorem dX8_isDryNow_18 : decode cX8_isDryNow 18 = .ok (.iand, 1) := by decide +kernel
theorem dX8_isDryNow_19 : decode cX8_isDryNow 19 = .ok (.iconst 1, 1) := by decide +kernel
theorem dX8_isDryNow_20 : decode cX8_isDryNow 20 = .ok (.if_icmp .ne 7, 3) := by decide +kernel
theorem dX8_isDryNow_23 : decode cX8_isDryNow 23 = .ok (.iconst 1, 1) := by decide +kernel
theorem dX8_isDryNow_24 : decode cX8_isDryNow 24 = .ok (.goto 4, 3) := by decide +kernel
theorem dX8_isDryNow_27 : decode cX8_isDryNow 27 = .ok (.iconst 0, 1) := by decide +kernel
theorem dX8_isDryNow_28 : decode cX8_isDryNow 28 = .ok (.ireturn, 1) := by decide +kernel
theorem dX8_told_0 : decode cX8_told 0 = .ok (.aload_n 0, 1) := by decide +kernel
theorem dX8_told_1 : decode cX8_told 1 = .ok (.iload_n 1, 1) := by decide +kernel
theorem dX8_told_2 : decode cX8_told 2 = .ok (.iload_n 2, 1) := by decide +kernel
theorem dX8_told_3 : decode cX8_told 3 = .ok (.iload_n 3, 1) := by decide +kernel
theorem dX8_told_4 : decode cX8_told 4 = .ok (.aload_n 0, 1) := by decide +kernel
theorem dX8_told_5 : decode cX8_told 5 = .ok (.iload_n 1, 1) := by decide +kernel
theorem dX8_told_6 : decode cX8_told 6 = .ok (.invokevirtual 153, 3) := by decide +kernel
theorem dX8_told_9 : decode cX8_told 9 = .ok (.invokevirtual 156, 3) := by decide +kernel
theorem dX8_told_12 : decode cX8_told 12 = .ok (.ireturn, 1) := by decide +kernel
theorem dX8_known_0 : decode cX8_known 0 = .ok (.aload_n 0, 1) := by decide +kernel
theorem dX8_known_1 : decode cX8_known 1 = .ok (.getfield 105, 3) := by decide +kernel
theorem dX8_known_4 : decode cX8_known 4 = .ok (.bipush 8, 2) := by decide +kernel
theorem dX8_known_6 : decode cX8_known 6 = .ok (.if_icmp .ne 39, 3) := by decide +kernel
theorem dX8_known_9 : decode cX8_known 9 = .ok (.bipush 13, 2) := by decide +kernel
theorem dX8_known_11 : decode cX8_known 11 = .ok (.istore_n 1, 1) := by decide +kernel
theorem dX8_known_12 : decode cX8_known 12 = .ok (.iload_n 1, 1) := by decide +kernel
theorem dX8_known_13 : decode cX8_known 13 = .ok (.bipush 104, 2) := by decide +kernel
theorem dX8_known_15 : decode cX8_known 15 = .ok (.if_icmp .ge 24, 3) := by decide +kernel
theorem dX8_known_18 : decode cX8_known 18 = .ok (.aload_n 0, 1) := by decide +kernel
theorem dX8_known_19 : decode cX8_known 19 = .ok (.getfield 16, 3) := by decide +kernel
theorem dX8_known_22 : decode cX8_known 22 = .ok (.iload_n 1, 1) := by decide +kernel
theorem dX8_known_23 : decode cX8_known 23 = .ok (.aload_n 0, 1) := by decide +kernel
theorem dX8_known_24 : decode cX8_known 24 = .ok (.getfield 16, 3) := by decide +kernel
theorem dX8_known_27 : decode cX8_known 27 = .ok (.iload_n 1, 1) := by decide +kernel
theorem dX8_known_28 : decode cX8_known 28 = .ok (.bipush 13, 2) := by decide +kernel
theorem dX8_known_30 : decode cX8_known 30 = .ok (.iadd, 1) := by decide +kernel
theorem dX8_known_31 : decode cX8_known 31 = .ok (.iaload, 1) := by decide +kernel
theorem dX8_known_32 : decode cX8_known 32 = .ok (.iastore, 1) := by decide +kernel
theorem dX8_known_33 : decode cX8_known 33 = .ok (.iinc 1 1, 3) := by decide +kernel
theorem dX8_known_36 : decode cX8_known 36 = .ok (.goto (-24), 3) := by decide +kernel
theorem dX8_known_39 : decode cX8_known 39 = .ok (.aload_n 0, 1) := by decide +kernel
theorem dX8_known_40 : decode cX8_known 40 = .ok (.bipush 7, 2) := by decide +kernel
theorem dX8_known_42 : decode cX8_known 42 = .ok (.putfield 105, 3) := by decide +kernel
theorem dX8_known_45 : decode cX8_known 45 = .ok (.aload_n 0, 1) := by decide +kernel
theorem dX8_known_46 : decode cX8_known 46 = .ok (.dup, 1) := by decide +kernel
theorem dX8_known_47 : decode cX8_known 47 = .ok (.getfield 105, 3) := by decide +kernel
theorem dX8_known_50 : decode cX8_known 50 = .ok (.iconst 1, 1) := by decide +kernel
theorem dX8_known_51 : decode cX8_known 51 = .ok (.iadd, 1) := by decide +kernel
theorem dX8_known_52 : decode cX8_known 52 = .ok (.putfield 105, 3) := by decide +kernel
theorem dX8_known_55 : decode cX8_known 55 = .ok (.aload_n 0, 1) := by decide +kernel
theorem dX8_known_56 : decode cX8_known 56 = .ok (.iconst 0, 1) := by decide +kernel
theorem dX8_known_57 : decode cX8_known 57 = .ok (.aload_n 0, 1) := by decide +kernel
theorem dX8_known_58 : decode cX8_known 58 = .ok (.getfield 105, 3) := by decide +kernel
theorem dX8_known_61 : decode cX8_known 61 = .ok (.bipush 13, 2) := by decide +kernel
theorem dX8_known_63 : decode cX8_known 63 = .ok (.imul, 1) := by decide +kernel
theorem dX8_known_64 : decode cX8_known 64 = .ok (.invokevirtual 101, 3) := by decide +kernel
theorem dX8_known_67 : decode cX8_known 67 = .ok (.return_, 1) := by decide +kernel
theorem dX8_isOver_0 : decode cX8_isOver 0 = .ok (.aload_n 0, 1) := by decide +kernel
theorem dX8_isOver_1 : decode cX8_isOver 1 = .ok (.getfield 16, 3) := by decide +kernel
theorem dX8_isOver_4 : decode cX8_isOver 4 = .ok (.bipush 12, 2) := by decide +kernel
theorem dX8_isOver_6 : decode cX8_isOver 6 = .ok (.iaload, 1) := by decide +kernel
theorem dX8_isOver_7 : decode cX8_isOver 7 = .ok (.ifCond .lt 7, 3) := by decide +kernel
theorem dX8_isOver_10 : decode cX8_isOver 10 = .ok (.iconst 1, 1) := by decide +kernel
theorem dX8_isOver_11 : decode cX8_isOver 11 = .ok (.goto 4, 3) := by decide +kernel
theorem dX8_isOver_14 : decode cX8_isOver 14 = .ok (.iconst 0, 1) := by decide +kernel
theorem dX8_isOver_15 : decode cX8_isOver 15 = .ok (.ireturn, 1) := by decide +kernel
theorem dX8_act_0 : decode cX8_act 0 = .ok (.iload_n 1, 1) := by decide +kernel
theorem dX8_act_1 : decode cX8_act 1 = .ok (.i2l, 1) := by decide +kernel
theorem dX8_act_2 : decode cX8_act 2 = .ok (.lconst 0, 1) := by decide +kernel
theorem dX8_act_3 : decode cX8_act 3 = .ok (.ldc2_w 160, 3) := by decide +kernel
theorem dX8_act_6 : decode cX8_act 6 = .ok (.invokestatic 49, 3) := by decide +kernel
theorem dX8_act_9 : decode cX8_act 9 = .ok (.ifCond .eq 15, 3) := by decide +kernel
theorem dX8_act_12 : decode cX8_act 12 = .ok (.iload_n 2, 1) := by decide +kernel
theorem dX8_act_13 : decode cX8_act 13 = .ok (.i2l, 1) := by decide +kernel
theorem dX8_act_14 : decode cX8_act 14 = .ok (.lconst 0, 1) := by decide +kernel
theorem dX8_act_15 : decode cX8_act 15 = .ok (.ldc2_w 160, 3) := by decide +kernel
theorem dX8_act_18 : decode cX8_act 18 = .ok (.invokestatic 49, 3) := by decide +kernel
theorem dX8_act_21 : decode cX8_act 21 = .ok (.ifCond .ne 5, 3) := by decide +kernel
theorem dX8_act_24 : decode cX8_act 24 = .ok (.iconst (-1), 1) := by decide +kernel
theorem dX8_act_25 : decode cX8_act 25 = .ok (.ireturn, 1) := by decide +kernel
theorem dX8_act_26 : decode cX8_act 26 = .ok (.aload_n 0, 1) := by decide +kernel
theorem dX8_act_27 : decode cX8_act 27 = .ok (.invokevirtual 162, 3) := by decide +kernel
theorem dX8_act_30 : decode cX8_act 30 = .ok (.ifCond .eq 6, 3) := by decide +kernel
theorem dX8_act_33 : decode cX8_act 33 = .ok (.bipush (-2), 2) := by decide +kernel
theorem dX8_act_35 : decode cX8_act 35 = .ok (.ireturn, 1) := by decide +kernel
theorem dX8_act_36 : decode cX8_act 36 = .ok (.aload_n 0, 1) := by decide +kernel
theorem dX8_act_37 : decode cX8_act 37 = .ok (.invokevirtual 165, 3) := by decide +kernel
theorem dX8_act_40 : decode cX8_act 40 = .ok (.aload_n 0, 1) := by decide +kernel
theorem dX8_act_41 : decode cX8_act 41 = .ok (.iconst 0, 1) := by decide +kernel
theorem dX8_act_42 : decode cX8_act 42 = .ok (.iload_n 1, 1) := by decide +kernel
theorem dX8_act_43 : decode cX8_act 43 = .ok (.iload_n 2, 1) := by decide +kernel
theorem dX8_act_44 : decode cX8_act 44 = .ok (.invokevirtual 168, 3) := by decide +kernel
theorem dX8_act_47 : decode cX8_act 47 = .ok (.ireturn, 1) := by decide +kernel
theorem dX8_pass_0 : decode cX8_pass 0 = .ok (.iload_n 1, 1) := by decide +kernel
theorem dX8_pass_1 : decode cX8_pass 1 = .ok (.i2l, 1) := by decide +kernel
theorem dX8_pass_2 : decode cX8_pass 2 = .ok (.lconst 1, 1) := by decide +kernel
theorem dX8_pass_3 : decode cX8_pass 3 = .ok (.ldc2_w 171, 3) := by decide +kernel
theorem dX8_pass_6 : decode cX8_pass 6 = .ok (.invokestatic 49, 3) := by decide +kernel
theorem dX8_pass_9 : decode cX8_pass 9 = .ok (.ifCond .ne 5, 3) := by decide +kernel
theorem dX8_pass_12 : decode cX8_pass 12 = .ok (.iconst (-1), 1) := by decide +kernel
theorem dX8_pass_13 : decode cX8_pass 13 = .ok (.ireturn, 1) := by decide +kernel
theorem dX8_pass_14 : decode cX8_pass 14 = .ok (.aload_n 0, 1) := by decide +kernel
theorem dX8_pass_15 : decode cX8_pass 15 = .ok (.invokevirtual 162, 3) := by decide +kernel
theorem dX8_pass_18 : decode cX8_pass 18 = .ok (.ifCond .eq 6, 3) := by decide +kernel
theorem dX8_pass_21 : decode cX8_pass 21 = .ok (.bipush (-2), 2) := by decide +kernel
theorem dX8_pass_23 : decode cX8_pass 23 = .ok (.ireturn, 1) := by decide +kernel
theorem dX8_pass_24 : decode cX8_pass 24 = .ok (.aload_n 0, 1) := by decide +kernel
theorem dX8_pass_25 : decode cX8_pass 25 = .ok (.invokevirtual 165, 3) := by decide +kernel
theorem dX8_pass_28 : decode cX8_pass 28 = .ok (.iconst 0, 1) := by decide +kernel
theorem dX8_pass_29 : decode cX8_pass 29 = .ok (.istore_n 2, 1) := by decide +kernel
theorem dX8_pass_30 : decode cX8_pass 30 = .ok (.iconst 0, 1) := by decide +kernel
theorem dX8_pass_31 : decode cX8_pass 31 = .ok (.istore_n 3, 1) := by decide +kernel
theorem dX8_pass_32 : decode cX8_pass 32 = .ok (.iload_n 3, 1) := by decide +kernel
theorem dX8_pass_33 : decode cX8_pass 33 = .ok (.iload_n 1, 1) := by decide +kernel
theorem dX8_pass_34 : decode cX8_pass 34 = .ok (.if_icmp .ge 19, 3) := by decide +kernel
theorem dX8_pass_37 : decode cX8_pass 37 = .ok (.iload_n 2, 1) := by decide +kernel
theorem dX8_pass_38 : decode cX8_pass 38 = .ok (.aload_n 0, 1) := by decide +kernel
theorem dX8_pass_39 : decode cX8_pass 39 = .ok (.iconst 0, 1) := by decide +kernel
theorem dX8_pass_40 : decode cX8_pass 40 = .ok (.iconst 0, 1) := by decide +kernel
theorem dX8_pass_41 : decode cX8_pass 41 = .ok (.iconst 0, 1) := by decide +kernel
theorem dX8_pass_42 : decode cX8_pass 42 = .ok (.invokevirtual 168, 3) := by decide +kernel
theorem dX8_pass_45 : decode cX8_pass 45 = .ok (.ior, 1) := by decide +kernel
theorem dX8_pass_46 : decode cX8_pass 46 = .ok (.istore_n 2, 1) := by decide +kernel
theorem dX8_pass_47 : decode cX8_pass 47 = .ok (.iinc 3 1, 3) := by decide +kernel
theorem dX8_pass_50 : decode cX8_pass 50 = .ok (.goto (-18), 3) := by decide +kernel
theorem dX8_pass_53 : decode cX8_pass 53 = .ok (.iload_n 2, 1) := by decide +kernel
theorem dX8_pass_54 : decode cX8_pass 54 = .ok (.ifCond .ge 8, 3) := by decide +kernel
theorem dX8_pass_57 : decode cX8_pass 57 = .ok (.bipush (-2), 2) := by decide +kernel
theorem dX8_pass_59 : decode cX8_pass 59 = .ok (.goto 10, 3) := by decide +kernel
theorem dX8_pass_62 : decode cX8_pass 62 = .ok (.aload_n 0, 1) := by decide +kernel
theorem dX8_pass_63 : decode cX8_pass 63 = .ok (.getfield 16, 3) := by decide +kernel
theorem dX8_pass_66 : decode cX8_pass 66 = .ok (.bipush 11, 2) := by decide +kernel
theorem dX8_pass_68 : decode cX8_pass 68 = .ok (.iaload, 1) := by decide +kernel
theorem dX8_pass_69 : decode cX8_pass 69 = .ok (.ireturn, 1) := by decide +kernel
theorem dX8_plant_0 : decode cX8_plant 0 = .ok (.iload_n 1, 1) := by decide +kernel
theorem dX8_plant_1 : decode cX8_plant 1 = .ok (.invokestatic 121, 3) := by decide +kernel
theorem dX8_plant_4 : decode cX8_plant 4 = .ok (.ifCond .eq 15, 3) := by decide +kernel
theorem dX8_plant_7 : decode cX8_plant 7 = .ok (.iload_n 2, 1) := by decide +kernel
theorem dX8_plant_8 : decode cX8_plant 8 = .ok (.i2l, 1) := by decide +kernel
theorem dX8_plant_9 : decode cX8_plant 9 = .ok (.lconst 0, 1) := by decide +kernel
theorem dX8_plant_10 : decode cX8_plant 10 = .ok (.ldc2_w 160, 3) := by decide +kernel
theorem dX8_plant_13 : decode cX8_plant 13 = .ok (.invokestatic 49, 3) := by decide +kernel
theorem dX8_plant_16 : decode cX8_plant 16 = .ok (.ifCond .ne 5, 3) := by decide +kernel
theorem dX8_plant_19 : decode cX8_plant 19 = .ok (.iconst (-1), 1) := by decide +kernel
theorem dX8_plant_20 : decode cX8_plant 20 = .ok (.ireturn, 1) := by decide +kernel
theorem dX8_plant_21 : decode cX8_plant 21 = .ok (.aload_n 0, 1) := by decide +kernel
theorem dX8_plant_22 : decode cX8_plant 22 = .ok (.invokevirtual 162, 3) := by decide +kernel
theorem dX8_plant_25 : decode cX8_plant 25 = .ok (.ifCond .ne 16, 3) := by decide +kernel
theorem dX8_plant_28 : decode cX8_plant 28 = .ok (.aload_n 0, 1) := by decide +kernel
theorem dX8_plant_29 : decode cX8_plant 29 = .ok (.getfield 16, 3) := by decide +kernel
theorem dX8_plant_32 : decode cX8_plant 32 = .ok (.bipush 6, 2) := by decide +kernel
theorem dX8_plant_34 : decode cX8_plant 34 = .ok (.iload_n 1, 1) := by decide +kernel
theorem dX8_plant_35 : decode cX8_plant 35 = .ok (.iadd, 1) := by decide +kernel
theorem dX8_plant_36 : decode cX8_plant 36 = .ok (.iaload, 1) := by decide +kernel
theorem dX8_plant_37 : decode cX8_plant 37 = .ok (.iconst 5, 1) := by decide +kernel
theorem dX8_plant_38 : decode cX8_plant 38 = .ok (.if_icmp .ge 6, 3) := by decide +kernel
theorem dX8_plant_41 : decode cX8_plant 41 = .ok (.bipush (-2), 2) := by decide +kernel
theorem dX8_plant_43 : decode cX8_plant 43 = .ok (.ireturn, 1) := by decide +kernel
theorem dX8_plant_44 : decode cX8_plant 44 = .ok (.aload_n 0, 1) := by decide +kernel
theorem dX8_plant_45 : decode cX8_plant 45 = .ok (.invokevirtual 165, 3) := by decide +kernel
theorem dX8_plant_48 : decode cX8_plant 48 = .ok (.aload_n 0, 1) := by decide +kernel
theorem dX8_plant_49 : decode cX8_plant 49 = .ok (.getfield 16, 3) := by decide +kernel
theorem dX8_plant_52 : decode cX8_plant 52 = .ok (.bipush 6, 2) := by decide +kernel
theorem dX8_plant_54 : decode cX8_plant 54 = .ok (.iload_n 1, 1) := by decide +kernel
theorem dX8_plant_55 : decode cX8_plant 55 = .ok (.iadd, 1) := by decide +kernel
theorem dX8_plant_56 : decode cX8_plant 56 = .ok (.dup2, 1) := by decide +kernel
theorem dX8_plant_57 : decode cX8_plant 57 = .ok (.iaload, 1) := by decide +kernel
theorem dX8_plant_58 : decode cX8_plant 58 = .ok (.iconst 5, 1) := by decide +kernel
theorem dX8_plant_59 : decode cX8_plant 59 = .ok (.isub, 1) := by decide +kernel
theorem dX8_plant_60 : decode cX8_plant 60 = .ok (.iastore, 1) := by decide +kernel
theorem dX8_plant_61 : decode cX8_plant 61 = .ok (.aload_n 0, 1) := by decide +kernel
theorem dX8_plant_62 : decode cX8_plant 62 = .ok (.getfield 16, 3) := by decide +kernel
theorem dX8_plant_65 : decode cX8_plant 65 = .ok (.iload_n 1, 1) := by decide +kernel
theorem dX8_plant_66 : decode cX8_plant 66 = .ok (.iload_n 2, 1) := by decide +kernel
theorem dX8_plant_67 : decode cX8_plant 67 = .ok (.iastore, 1) := by decide +kernel
theorem dX8_plant_68 : decode cX8_plant 68 = .ok (.aload_n 0, 1) := by decide +kernel
theorem dX8_plant_69 : decode cX8_plant 69 = .ok (.getfield 16, 3) := by decide +kernel
theorem dX8_plant_72 : decode cX8_plant 72 = .ok (.iconst 2, 1) := by decide +kernel
theorem dX8_plant_73 : decode cX8_plant 73 = .ok (.iload_n 1, 1) := by decide +kernel
theorem dX8_plant_74 : decode cX8_plant 74 = .ok (.iadd, 1) := by decide +kernel
theorem dX8_plant_75 : decode cX8_plant 75 = .ok (.iconst 1, 1) := by decide +kernel
theorem dX8_plant_76 : decode cX8_plant 76 = .ok (.iastore, 1) := by decide +kernel
theorem dX8_plant_77 : decode cX8_plant 77 = .ok (.aload_n 0, 1) := by decide +kernel
theorem dX8_plant_78 : decode cX8_plant 78 = .ok (.getfield 16, 3) := by decide +kernel
theorem dX8_plant_81 : decode cX8_plant 81 = .ok (.iconst 4, 1) := by decide +kernel
theorem dX8_plant_82 : decode cX8_plant 82 = .ok (.iload_n 1, 1) := by decide +kernel
theorem dX8_plant_83 : decode cX8_plant 83 = .ok (.iadd, 1) := by decide +kernel
theorem dX8_plant_84 : decode cX8_plant 84 = .ok (.iconst 0, 1) := by decide +kernel
theorem dX8_plant_85 : decode cX8_plant 85 = .ok (.iastore, 1) := by decide +kernel
theorem dX8_plant_86 : decode cX8_plant 86 = .ok (.aload_n 0, 1) := by decide +kernel
theorem dX8_plant_87 : decode cX8_plant 87 = .ok (.getfield 16, 3) := by decide +kernel
theorem dX8_plant_90 : decode cX8_plant 90 = .ok (.bipush 6, 2) := by decide +kernel
theorem dX8_plant_92 : decode cX8_plant 92 = .ok (.iload_n 1, 1) := by decide +kernel
theorem dX8_plant_93 : decode cX8_plant 93 = .ok (.iadd, 1) := by decide +kernel
theorem dX8_plant_94 : decode cX8_plant 94 = .ok (.iaload, 1) := by decide +kernel
theorem dX8_plant_95 : decode cX8_plant 95 = .ok (.ireturn, 1) := by decide +kernel
theorem dX8_undo_0 : decode cX8_undo 0 = .ok (.aload_n 0, 1) := by decide +kernel
theorem dX8_undo_1 : decode cX8_undo 1 = .ok (.getfield 105, 3) := by decide +kernel
theorem dX8_undo_4 : decode cX8_undo 4 = .ok (.ifCond .ne 6, 3) := by decide +kernel
theorem dX8_undo_7 : decode cX8_undo 7 = .ok (.bipush (-2), 2) := by decide +kernel
theorem dX8_undo_9 : decode cX8_undo 9 = .ok (.ireturn, 1) := by decide +kernel
theorem dX8_undo_10 : decode cX8_undo 10 = .ok (.aload_n 0, 1) := by decide +kernel
theorem dX8_undo_11 : decode cX8_undo 11 = .ok (.aload_n 0, 1) := by decide +kernel
theorem dX8_undo_12 : decode cX8_undo 12 = .ok (.getfield 105, 3) := by decide +kernel
theorem dX8_undo_15 : decode cX8_undo 15 = .ok (.bipush 13, 2) := by decide +kernel
theorem dX8_undo_17 : decode cX8_undo 17 = .ok (.imul, 1) := by decide +kernel
theorem dX8_undo_18 : decode cX8_undo 18 = .ok (.iconst 0, 1) := by decide +kernel
theorem dX8_undo_19 : decode cX8_undo 19 = .ok (.invokevirtual 101, 3) := by decide +kernel
theorem dX8_undo_22 : decode cX8_undo 22 = .ok (.aload_n 0, 1) := by decide +kernel
theorem dX8_undo_23 : decode cX8_undo 23 = .ok (.dup, 1) := by decide +kernel
theorem dX8_undo_24 : decode cX8_undo 24 = .ok (.getfield 105, 3) := by decide +kernel
theorem dX8_undo_27 : decode cX8_undo 27 = .ok (.iconst 1, 1) := by decide +kernel
theorem dX8_undo_28 : decode cX8_undo 28 = .ok (.isub, 1) := by decide +kernel
theorem dX8_undo_29 : decode cX8_undo 29 = .ok (.putfield 105, 3) := by decide +kernel
theorem dX8_undo_32 : decode cX8_undo 32 = .ok (.aload_n 0, 1) := by decide +kernel
theorem dX8_undo_33 : decode cX8_undo 33 = .ok (.getfield 105, 3) := by decide +kernel
theorem dX8_undo_36 : decode cX8_undo 36 = .ok (.ireturn, 1) := by decide +kernel
theorem dX8_idles_0 : decode cX8_idles 0 = .ok (.iconst 0, 1) := by decide +kernel
theorem dX8_idles_1 : decode cX8_idles 1 = .ok (.istore_n 2, 1) := by decide +kernel
theorem dX8_idles_2 : decode cX8_idles 2 = .ok (.iconst 0, 1) := by decide +kernel
theorem dX8_idles_3 : decode cX8_idles 3 = .ok (.istore_n 3, 1) := by decide +kernel
theorem dX8_idles_4 : decode cX8_idles 4 = .ok (.iload_n 3, 1) := by decide +kernel
theorem dX8_idles_5 : decode cX8_idles 5 = .ok (.iload_n 1, 1) := by decide +kernel
theorem dX8_idles_6 : decode cX8_idles 6 = .ok (.if_icmp .ge 21, 3) := by decide +kernel
theorem dX8_idles_9 : decode cX8_idles 9 = .ok (.iload_n 2, 1) := by decide +kernel
theorem dX8_idles_10 : decode cX8_idles 10 = .ok (.aload_n 0, 1) := by decide +kernel
theorem dX8_idles_11 : decode cX8_idles 11 = .ok (.sipush 143, 3) := by decide +kernel
theorem dX8_idles_14 : decode cX8_idles 14 = .ok (.iconst 0, 1) := by decide +kernel
theorem dX8_idles_15 : decode cX8_idles 15 = .ok (.iconst 0, 1) := by decide +kernel
theorem dX8_idles_16 : decode cX8_idles 16 = .ok (.invokevirtual 168, 3) := by decide +kernel
theorem dX8_idles_19 : decode cX8_idles 19 = .ok (.ior, 1) := by decide +kernel
theorem dX8_idles_20 : decode cX8_idles 20 = .ok (.istore_n 2, 1) := by decide +kernel
theorem dX8_idles_21 : decode cX8_idles 21 = .ok (.iinc 3 1, 3) := by decide +kernel
theorem dX8_idles_24 : decode cX8_idles 24 = .ok (.goto (-20), 3) := by decide +kernel
theorem dX8_idles_27 : decode cX8_idles 27 = .ok (.iload_n 2, 1) := by decide +kernel
theorem dX8_idles_28 : decode cX8_idles 28 = .ok (.ireturn, 1) := by decide +kernel
theorem dX8_behind_0 : decode cX8_behind 0 = .ok (.iload_n 1, 1) := by decide +kernel
theorem dX8_behind_1 : decode cX8_behind 1 = .ok (.i2l, 1) := by decide +kernel
theorem dX8_behind_2 : decode cX8_behind 2 = .ok (.lconst 0, 1) := by decide +kernel
theorem dX8_behind_3 : decode cX8_behind 3 = .ok (.ldc2_w 173, 3) := by decide +kernel
theorem dX8_behind_6 : decode cX8_behind 6 = .ok (.invokestatic 49, 3) := by decide +kernel
theorem dX8_behind_9 : decode cX8_behind 9 = .ok (.ifCond .eq 15, 3) := by decide +kernel
theorem dX8_behind_12 : decode cX8_behind 12 = .ok (.iload_n 2, 1) := by decide +kernel
theorem dX8_behind_13 : decode cX8_behind 13 = .ok (.i2l, 1) := by decide +kernel
theorem dX8_behind_14 : decode cX8_behind 14 = .ok (.lconst 0, 1) := by decide +kernel
theorem dX8_behind_15 : decode cX8_behind 15 = .ok (.ldc2_w 175, 3) := by decide +kernel
theorem dX8_behind_18 : decode cX8_behind 18 = .ok (.invokestatic 49, 3) := by decide +kernel
theorem dX8_behind_21 : decode cX8_behind 21 = .ok (.ifCond .ne 5, 3) := by decide +kernel
theorem dX8_behind_24 : decode cX8_behind 24 = .ok (.iconst (-1), 1) := by decide +kernel
theorem dX8_behind_25 : decode cX8_behind 25 = .ok (.ireturn, 1) := by decide +kernel
theorem dX8_behind_26 : decode cX8_behind 26 = .ok (.aload_n 0, 1) := by decide +kernel
theorem dX8_behind_27 : decode cX8_behind 27 = .ok (.iconst 0, 1) := by decide +kernel
theorem dX8_behind_28 : decode cX8_behind 28 = .ok (.sipush 143, 3) := by decide +kernel
theorem dX8_behind_31 : decode cX8_behind 31 = .ok (.invokevirtual 101, 3) := by decide +kernel
theorem dX8_behind_34 : decode cX8_behind 34 = .ok (.aload_n 0, 1) := by decide +kernel
theorem dX8_behind_35 : decode cX8_behind 35 = .ok (.iload_n 1, 1) := by decide +kernel
theorem dX8_behind_36 : decode cX8_behind 36 = .ok (.invokevirtual 177, 3) := by decide +kernel
theorem dX8_behind_39 : decode cX8_behind 39 = .ok (.istore_n 3, 1) := by decide +kernel
theorem dX8_behind_40 : decode cX8_behind 40 = .ok (.iload_n 3, 1) := by decide +kernel
theorem dX8_behind_41 : decode cX8_behind 41 = .ok (.ifCond .ge 8, 3) := by decide +kernel
theorem dX8_behind_44 : decode cX8_behind 44 = .ok (.bipush (-2), 2) := by decide +kernel
theorem dX8_behind_46 : decode cX8_behind 46 = .ok (.goto 29, 3) := by decide +kernel
theorem dX8_behind_49 : decode cX8_behind 49 = .ok (.iload_n 2, 1) := by decide +kernel
theorem dX8_behind_50 : decode cX8_behind 50 = .ok (.iconst 2, 1) := by decide +kernel
theorem dX8_behind_51 : decode cX8_behind 51 = .ok (.if_icmp .ne 14, 3) := by decide +kernel
theorem dX8_behind_54 : decode cX8_behind 54 = .ok (.aload_n 0, 1) := by decide +kernel
theorem dX8_behind_55 : decode cX8_behind 55 = .ok (.getfield 16, 3) := by decide +kernel
theorem dX8_behind_58 : decode cX8_behind 58 = .ok (.sipush 155, 3) := by decide +kernel
theorem dX8_behind_61 : decode cX8_behind 61 = .ok (.iaload, 1) := by decide +kernel
theorem dX8_behind_62 : decode cX8_behind 62 = .ok (.goto 13, 3) := by decide +kernel
theorem dX8_behind_65 : decode cX8_behind 65 = .ok (.aload_n 0, 1) := by decide +kernel
theorem dX8_behind_66 : decode cX8_behind 66 = .ok (.getfield 16, 3) := by decide +kernel
theorem dX8_behind_69 : decode cX8_behind 69 = .ok (.sipush 145, 3) := by decide +kernel
theorem dX8_behind_72 : decode cX8_behind 72 = .ok (.iload_n 2, 1) := by decide +kernel
theorem dX8_behind_73 : decode cX8_behind 73 = .ok (.iadd, 1) := by decide +kernel
theorem dX8_behind_74 : decode cX8_behind 74 = .ok (.iaload, 1) := by decide +kernel
theorem dX8_behind_75 : decode cX8_behind 75 = .ok (.ireturn, 1) := by decide +kernel
theorem dX8_doneIn_0 : decode cX8_doneIn 0 = .ok (.iload_n 0, 1) := by decide +kernel
theorem dX8_doneIn_1 : decode cX8_doneIn 1 = .ok (.istore_n 3, 1) := by decide +kernel
theorem dX8_doneIn_2 : decode cX8_doneIn 2 = .ok (.iload_n 2, 1) := by decide +kernel
theorem dX8_doneIn_3 : decode cX8_doneIn 3 = .ok (.iconst 1, 1) := by decide +kernel
theorem dX8_doneIn_4 : decode cX8_doneIn 4 = .ok (.iadd, 1) := by decide +kernel
theorem dX8_doneIn_5 : decode cX8_doneIn 5 = .ok (.istore 4, 2) := by decide +kernel
theorem dX8_doneIn_7 : decode cX8_doneIn 7 = .ok (.iload 4, 2) := by decide +kernel
theorem dX8_doneIn_9 : decode cX8_doneIn 9 = .ok (.iload_n 1, 1) := by decide +kernel
theorem dX8_doneIn_10 : decode cX8_doneIn 10 = .ok (.if_icmp .ge 13, 3) := by decide +kernel
theorem dX8_doneIn_13 : decode cX8_doneIn 13 = .ok (.iload_n 3, 1) := by decide +kernel
theorem dX8_doneIn_14 : decode cX8_doneIn 14 = .ok (.iconst 5, 1) := by decide +kernel
theorem dX8_doneIn_15 : decode cX8_doneIn 15 = .ok (.idiv, 1) := by decide +kernel
theorem dX8_doneIn_16 : decode cX8_doneIn 16 = .ok (.istore_n 3, 1) := by decide +kernel
theorem dX8_doneIn_17 : decode cX8_doneIn 17 = .ok (.iinc 4 1, 3) := by decide +kernel
theorem dX8_doneIn_20 : decode cX8_doneIn 20 = .ok (.goto (-13), 3) := by decide +kernel
theorem dX8_doneIn_23 : decode cX8_doneIn 23 = .ok (.iload_n 3, 1) := by decide +kernel
theorem dX8_doneIn_24 : decode cX8_doneIn 24 = .ok (.iconst 5, 1) := by decide +kernel
theorem dX8_doneIn_25 : decode cX8_doneIn 25 = .ok (.irem, 1) := by decide +kernel
theorem dX8_doneIn_26 : decode cX8_doneIn 26 = .ok (.ireturn, 1) := by decide +kernel
theorem dX8_rowsOf_0 : decode cX8_rowsOf 0 = .ok (.iconst 1, 1) := by decide +kernel
theorem dX8_rowsOf_1 : decode cX8_rowsOf 1 = .ok (.istore_n 1, 1) := by decide +kernel
theorem dX8_rowsOf_2 : decode cX8_rowsOf 2 = .ok (.iconst 0, 1) := by decide +kernel
theorem dX8_rowsOf_3 : decode cX8_rowsOf 3 = .ok (.istore_n 2, 1) := by decide +kernel
theorem dX8_rowsOf_4 : decode cX8_rowsOf 4 = .ok (.iload_n 2, 1) := by decide +kernel
theorem dX8_rowsOf_5 : decode cX8_rowsOf 5 = .ok (.iload_n 0, 1) := by decide +kernel
theorem dX8_rowsOf_6 : decode cX8_rowsOf 6 = .ok (.if_icmp .ge 13, 3) := by decide +kernel
theorem dX8_rowsOf_9 : decode cX8_rowsOf 9 = .ok (.iload_n 1, 1) := by decide +kernel
theorem dX8_rowsOf_10 : decode cX8_rowsOf 10 = .ok (.iconst 5, 1) := by decide +kernel
theorem dX8_rowsOf_11 : decode cX8_rowsOf 11 = .ok (.imul, 1) := by decide +kernel
theorem dX8_rowsOf_12 : decode cX8_rowsOf 12 = .ok (.istore_n 1, 1) := by decide +kernel
theorem dX8_rowsOf_13 : decode cX8_rowsOf 13 = .ok (.iinc 2 1, 3) := by decide +kernel
theorem dX8_rowsOf_16 : decode cX8_rowsOf 16 = .ok (.goto (-12), 3) := by decide +kernel
theorem dX8_rowsOf_19 : decode cX8_rowsOf 19 = .ok (.iload_n 1, 1) := by decide +kernel
theorem dX8_rowsOf_20 : decode cX8_rowsOf 20 = .ok (.ireturn, 1) := by decide +kernel
theorem dX8_rows_0 : decode cX8_rows 0 = .ok (.aload_n 0, 1) := by decide +kernel
theorem dX8_rows_1 : decode cX8_rows 1 = .ok (.iconst 0, 1) := by decide +kernel
theorem dX8_rows_2 : decode cX8_rows 2 = .ok (.sipush 143, 3) := by decide +kernel
theorem dX8_rows_5 : decode cX8_rows 5 = .ok (.invokevirtual 101, 3) := by decide +kernel
theorem dX8_rows_8 : decode cX8_rows 8 = .ok (.iconst 0, 1) := by decide +kernel
theorem dX8_rows_9 : decode cX8_rows 9 = .ok (.istore 5, 2) := by decide +kernel
theorem dX8_rows_11 : decode cX8_rows 11 = .ok (.iconst 0, 1) := by decide +kernel
theorem dX8_rows_12 : decode cX8_rows 12 = .ok (.istore 6, 2) := by decide +kernel
theorem dX8_rows_14 : decode cX8_rows 14 = .ok (.iload 6, 2) := by decide +kernel
theorem dX8_rows_16 : decode cX8_rows 16 = .ok (.iload_n 3, 1) := by decide +kernel
theorem dX8_rows_17 : decode cX8_rows 17 = .ok (.if_icmp .ge 52, 3) := by decide +kernel
theorem dX8_rows_20 : decode cX8_rows 20 = .ok (.iload_n 2, 1) := by decide +kernel
theorem dX8_rows_21 : decode cX8_rows 21 = .ok (.iload_n 3, 1) := by decide +kernel
theorem dX8_rows_22 : decode cX8_rows 22 = .ok (.iload 6, 2) := by decide +kernel
theorem dX8_rows_24 : decode cX8_rows 24 = .ok (.invokestatic 180, 3) := by decide +kernel
theorem dX8_rows_27 : decode cX8_rows 27 = .ok (.istore 7, 2) := by decide +kernel
theorem dX8_rows_29 : decode cX8_rows 29 = .ok (.iload 5, 2) := by decide +kernel
theorem dX8_rows_31 : decode cX8_rows 31 = .ok (.iload_n 1, 1) := by decide +kernel
theorem dX8_rows_32 : decode cX8_rows 32 = .ok (.ifCond .ne 17, 3) := by decide +kernel
theorem dX8_rows_35 : decode cX8_rows 35 = .ok (.aload_n 0, 1) := by decide +kernel
theorem dX8_rows_36 : decode cX8_rows 36 = .ok (.sipush 143, 3) := by decide +kernel
theorem dX8_rows_39 : decode cX8_rows 39 = .ok (.iload 7, 2) := by decide +kernel
theorem dX8_rows_41 : decode cX8_rows 41 = .ok (.iload 4, 2) := by decide +kernel
theorem dX8_rows_43 : decode cX8_rows 43 = .ok (.invokevirtual 168, 3) := by decide +kernel
theorem dX8_rows_46 : decode cX8_rows 46 = .ok (.goto 14, 3) := by decide +kernel
theorem dX8_rows_49 : decode cX8_rows 49 = .ok (.aload_n 0, 1) := by decide +kernel
theorem dX8_rows_50 : decode cX8_rows 50 = .ok (.sipush 143, 3) := by decide +kernel
theorem dX8_rows_53 : decode cX8_rows 53 = .ok (.iload 4, 2) := by decide +kernel
theorem dX8_rows_55 : decode cX8_rows 55 = .ok (.iload 7, 2) := by decide +kernel
theorem dX8_rows_57 : decode cX8_rows 57 = .ok (.invokevirtual 168, 3) := by decide +kernel
theorem dX8_rows_60 : decode cX8_rows 60 = .ok (.ior, 1) := by decide +kernel
theorem dX8_rows_61 : decode cX8_rows 61 = .ok (.istore 5, 2) := by decide +kernel
theorem dX8_rows_63 : decode cX8_rows 63 = .ok (.iinc 6 1, 3) := by decide +kernel
theorem dX8_rows_66 : decode cX8_rows 66 = .ok (.goto (-52), 3) := by decide +kernel
theorem dX8_rows_69 : decode cX8_rows 69 = .ok (.iload 5, 2) := by decide +kernel
theorem dX8_rows_71 : decode cX8_rows 71 = .ok (.ifCond .ge 8, 3) := by decide +kernel
theorem dX8_rows_74 : decode cX8_rows 74 = .ok (.bipush (-2), 2) := by decide +kernel
theorem dX8_rows_76 : decode cX8_rows 76 = .ok (.goto 11, 3) := by decide +kernel
theorem dX8_rows_79 : decode cX8_rows 79 = .ok (.aload_n 0, 1) := by decide +kernel
theorem dX8_rows_80 : decode cX8_rows 80 = .ok (.getfield 16, 3) := by decide +kernel
theorem dX8_rows_83 : decode cX8_rows 83 = .ok (.sipush 155, 3) := by decide +kernel
theorem dX8_rows_86 : decode cX8_rows 86 = .ok (.iaload, 1) := by decide +kernel
theorem dX8_rows_87 : decode cX8_rows 87 = .ok (.ireturn, 1) := by decide +kernel
theorem dX8_soonest_0 : decode cX8_soonest 0 = .ok (.iload_n 1, 1) := by decide +kernel
theorem dX8_soonest_1 : decode cX8_soonest 1 = .ok (.invokestatic 121, 3) := by decide +kernel
theorem dX8_soonest_4 : decode cX8_soonest 4 = .ok (.ifCond .eq 15, 3) := by decide +kernel
theorem dX8_soonest_7 : decode cX8_soonest 7 = .ok (.iload_n 2, 1) := by decide +kernel
theorem dX8_soonest_8 : decode cX8_soonest 8 = .ok (.i2l, 1) := by decide +kernel
theorem dX8_soonest_9 : decode cX8_soonest 9 = .ok (.lconst 0, 1) := by decide +kernel
theorem dX8_soonest_10 : decode cX8_soonest 10 = .ok (.ldc2_w 183, 3) := by decide +kernel
theorem dX8_soonest_13 : decode cX8_soonest 13 = .ok (.invokestatic 49, 3) := by decide +kernel
theorem dX8_soonest_16 : decode cX8_soonest 16 = .ok (.ifCond .ne 5, 3) := by decide +kernel
theorem dX8_soonest_19 : decode cX8_soonest 19 = .ok (.iconst (-1), 1) := by decide +kernel
theorem dX8_soonest_20 : decode cX8_soonest 20 = .ok (.ireturn, 1) := by decide +kernel
theorem dX8_soonest_21 : decode cX8_soonest 21 = .ok (.aload_n 0, 1) := by decide +kernel
theorem dX8_soonest_22 : decode cX8_soonest 22 = .ok (.invokevirtual 162, 3) := by decide +kernel
theorem dX8_soonest_25 : decode cX8_soonest 25 = .ok (.ifCond .eq 6, 3) := by decide +kernel
theorem dX8_soonest_28 : decode cX8_soonest 28 = .ok (.bipush (-2), 2) := by decide +kernel
theorem dX8_soonest_30 : decode cX8_soonest 30 = .ok (.ireturn, 1) := by decide +kernel
theorem dX8_soonest_31 : decode cX8_soonest 31 = .ok (.iconst 1, 1) := by decide +kernel
theorem dX8_soonest_32 : decode cX8_soonest 32 = .ok (.istore_n 3, 1) := by decide +kernel
theorem dX8_soonest_33 : decode cX8_soonest 33 = .ok (.iload_n 3, 1) := by decide +kernel
theorem dX8_soonest_34 : decode cX8_soonest 34 = .ok (.iconst 5, 1) := by decide +kernel
theorem dX8_soonest_35 : decode cX8_soonest 35 = .ok (.if_icmp .gt 70, 3) := by decide +kernel
theorem dX8_soonest_38 : decode cX8_soonest 38 = .ok (.iconst 0, 1) := by decide +kernel
theorem dX8_soonest_39 : decode cX8_soonest 39 = .ok (.istore 4, 2) := by decide +kernel
theorem dX8_soonest_41 : decode cX8_soonest 41 = .ok (.iload 4, 2) := by decide +kernel
theorem dX8_soonest_43 : decode cX8_soonest 43 = .ok (.iload_n 3, 1) := by decide +kernel
theorem dX8_soonest_44 : decode cX8_soonest 44 = .ok (.invokestatic 185, 3) := by decide +kernel
theorem dX8_soonest_47 : decode cX8_soonest 47 = .ok (.if_icmp .ge 52, 3) := by decide +kernel
theorem dX8_soonest_50 : decode cX8_soonest 50 = .ok (.aload_n 0, 1) := by decide +kernel
theorem dX8_soonest_51 : decode cX8_soonest 51 = .ok (.iload_n 1, 1) := by decide +kernel
theorem dX8_soonest_52 : decode cX8_soonest 52 = .ok (.iload 4, 2) := by decide +kernel
theorem dX8_soonest_54 : decode cX8_soonest 54 = .ok (.iload_n 3, 1) := by decide +kernel
theorem dX8_soonest_55 : decode cX8_soonest 55 = .ok (.iconst 0, 1) := by decide +kernel
theorem dX8_soonest_56 : decode cX8_soonest 56 = .ok (.invokevirtual 188, 3) := by decide +kernel
theorem dX8_soonest_59 : decode cX8_soonest 59 = .ok (.iconst 1, 1) := by decide +kernel
theorem dX8_soonest_60 : decode cX8_soonest 60 = .ok (.iload_n 1, 1) := by decide +kernel
theorem dX8_soonest_61 : decode cX8_soonest 61 = .ok (.isub, 1) := by decide +kernel
theorem dX8_soonest_62 : decode cX8_soonest 62 = .ok (.if_icmp .ne 31, 3) := by decide +kernel
theorem dX8_soonest_65 : decode cX8_soonest 65 = .ok (.iload_n 2, 1) := by decide +kernel
theorem dX8_soonest_66 : decode cX8_soonest 66 = .ok (.ifCond .ne 7, 3) := by decide +kernel
theorem dX8_soonest_69 : decode cX8_soonest 69 = .ok (.iload_n 3, 1) := by decide +kernel
theorem dX8_soonest_70 : decode cX8_soonest 70 = .ok (.goto 22, 3) := by decide +kernel
theorem dX8_soonest_73 : decode cX8_soonest 73 = .ok (.iload_n 2, 1) := by decide +kernel
theorem dX8_soonest_74 : decode cX8_soonest 74 = .ok (.iload_n 3, 1) := by decide +kernel
theorem dX8_soonest_75 : decode cX8_soonest 75 = .ok (.if_icmp .le 8, 3) := by decide +kernel
theorem dX8_soonest_78 : decode cX8_soonest 78 = .ok (.bipush (-4), 2) := by decide +kernel
theorem dX8_soonest_80 : decode cX8_soonest 80 = .ok (.goto 12, 3) := by decide +kernel
theorem dX8_soonest_83 : decode cX8_soonest 83 = .ok (.iload 4, 2) := by decide +kernel
theorem dX8_soonest_85 : decode cX8_soonest 85 = .ok (.iload_n 3, 1) := by decide +kernel
theorem dX8_soonest_86 : decode cX8_soonest 86 = .ok (.iload_n 2, 1) := by decide +kernel
theorem dX8_soonest_87 : decode cX8_soonest 87 = .ok (.iconst 1, 1) := by decide +kernel
theorem dX8_soonest_88 : decode cX8_soonest 88 = .ok (.isub, 1) := by decide +kernel
theorem dX8_soonest_89 : decode cX8_soonest 89 = .ok (.invokestatic 180, 3) := by decide +kernel
theorem dX8_soonest_92 : decode cX8_soonest 92 = .ok (.ireturn, 1) := by decide +kernel
theorem dX8_soonest_93 : decode cX8_soonest 93 = .ok (.iinc 4 1, 3) := by decide +kernel
theorem dX8_soonest_96 : decode cX8_soonest 96 = .ok (.goto (-55), 3) := by decide +kernel
theorem dX8_soonest_99 : decode cX8_soonest 99 = .ok (.iinc 3 1, 3) := by decide +kernel
theorem dX8_soonest_102 : decode cX8_soonest 102 = .ok (.goto (-69), 3) := by decide +kernel
theorem dX8_soonest_105 : decode cX8_soonest 105 = .ok (.bipush (-4), 2) := by decide +kernel
theorem dX8_soonest_107 : decode cX8_soonest 107 = .ok (.ireturn, 1) := by decide +kernel
theorem dX8_hold_0 : decode cX8_hold 0 = .ok (.iload_n 1, 1) := by decide +kernel
theorem dX8_hold_1 : decode cX8_hold 1 = .ok (.invokestatic 121, 3) := by decide +kernel
theorem dX8_hold_4 : decode cX8_hold 4 = .ok (.ifCond .eq 26, 3) := by decide +kernel
theorem dX8_hold_7 : decode cX8_hold 7 = .ok (.iload_n 2, 1) := by decide +kernel
theorem dX8_hold_8 : decode cX8_hold 8 = .ok (.i2l, 1) := by decide +kernel
theorem dX8_hold_9 : decode cX8_hold 9 = .ok (.lconst 1, 1) := by decide +kernel
theorem dX8_hold_10 : decode cX8_hold 10 = .ok (.ldc2_w 183, 3) := by decide +kernel
theorem dX8_hold_13 : decode cX8_hold 13 = .ok (.invokestatic 49, 3) := by decide +kernel
theorem dX8_hold_16 : decode cX8_hold 16 = .ok (.ifCond .eq 14, 3) := by decide +kernel
theorem dX8_hold_19 : decode cX8_hold 19 = .ok (.iload_n 3, 1) := by decide +kernel
theorem dX8_hold_20 : decode cX8_hold 20 = .ok (.i2l, 1) := by decide +kernel
theorem dX8_hold_21 : decode cX8_hold 21 = .ok (.lconst 1, 1) := by decide +kernel
theorem dX8_hold_22 : decode cX8_hold 22 = .ok (.iload_n 2, 1) := by decide +kernel
theorem dX8_hold_23 : decode cX8_hold 23 = .ok (.i2l, 1) := by decide +kernel
theorem dX8_hold_24 : decode cX8_hold 24 = .ok (.invokestatic 49, 3) := by decide +kernel
theorem dX8_hold_27 : decode cX8_hold 27 = .ok (.ifCond .ne 5, 3) := by decide +kernel
theorem dX8_hold_30 : decode cX8_hold 30 = .ok (.iconst (-1), 1) := by decide +kernel
theorem dX8_hold_31 : decode cX8_hold 31 = .ok (.ireturn, 1) := by decide +kernel
theorem dX8_hold_32 : decode cX8_hold 32 = .ok (.aload_n 0, 1) := by decide +kernel
theorem dX8_hold_33 : decode cX8_hold 33 = .ok (.invokevirtual 162, 3) := by decide +kernel
theorem dX8_hold_36 : decode cX8_hold 36 = .ok (.ifCond .eq 6, 3) := by decide +kernel
theorem dX8_hold_39 : decode cX8_hold 39 = .ok (.bipush (-2), 2) := by decide +kernel
theorem dX8_hold_41 : decode cX8_hold 41 = .ok (.ireturn, 1) := by decide +kernel
theorem dX8_hold_42 : decode cX8_hold 42 = .ok (.iconst 0, 1) := by decide +kernel
theorem dX8_hold_43 : decode cX8_hold 43 = .ok (.istore 4, 2) := by decide +kernel
theorem dX8_hold_45 : decode cX8_hold 45 = .ok (.iload 4, 2) := by decide +kernel
theorem dX8_hold_47 : decode cX8_hold 47 = .ok (.iload_n 2, 1) := by decide +kernel
theorem dX8_hold_48 : decode cX8_hold 48 = .ok (.invokestatic 185, 3) := by decide +kernel
theorem dX8_hold_51 : decode cX8_hold 51 = .ok (.if_icmp .ge 32, 3) := by decide +kernel
theorem dX8_hold_54 : decode cX8_hold 54 = .ok (.aload_n 0, 1) := by decide +kernel
theorem dX8_hold_55 : decode cX8_hold 55 = .ok (.iload_n 1, 1) := by decide +kernel
theorem dX8_hold_56 : decode cX8_hold 56 = .ok (.iload 4, 2) := by decide +kernel
theorem dX8_hold_58 : decode cX8_hold 58 = .ok (.iload_n 2, 1) := by decide +kernel
theorem dX8_hold_59 : decode cX8_hold 59 = .ok (.iconst 2, 1) := by decide +kernel
theorem dX8_hold_60 : decode cX8_hold 60 = .ok (.invokevirtual 188, 3) := by decide +kernel
theorem dX8_hold_63 : decode cX8_hold 63 = .ok (.iload_n 1, 1) := by decide +kernel
theorem dX8_hold_64 : decode cX8_hold 64 = .ok (.if_icmp .eq 13, 3) := by decide +kernel
theorem dX8_hold_67 : decode cX8_hold 67 = .ok (.iload 4, 2) := by decide +kernel
theorem dX8_hold_69 : decode cX8_hold 69 = .ok (.iload_n 2, 1) := by decide +kernel
theorem dX8_hold_70 : decode cX8_hold 70 = .ok (.iload_n 3, 1) := by decide +kernel
theorem dX8_hold_71 : decode cX8_hold 71 = .ok (.iconst 1, 1) := by decide +kernel
theorem dX8_hold_72 : decode cX8_hold 72 = .ok (.isub, 1) := by decide +kernel
theorem dX8_hold_73 : decode cX8_hold 73 = .ok (.invokestatic 180, 3) := by decide +kernel
theorem dX8_hold_76 : decode cX8_hold 76 = .ok (.ireturn, 1) := by decide +kernel
theorem dX8_hold_77 : decode cX8_hold 77 = .ok (.iinc 4 1, 3) := by decide +kernel
theorem dX8_hold_80 : decode cX8_hold 80 = .ok (.goto (-35), 3) := by decide +kernel
theorem dX8_hold_83 : decode cX8_hold 83 = .ok (.bipush (-4), 2) := by decide +kernel
theorem dX8_hold_85 : decode cX8_hold 85 = .ok (.ireturn, 1) := by decide +kernel
theorem dX8_folds_0 : decode cX8_folds 0 = .ok (.iload_n 1, 1) := by decide +kernel
theorem dX8_folds_1 : decode cX8_folds 1 = .ok (.iconst 2, 1) := by decide +kernel
theorem dX8_folds_2 : decode cX8_folds 2 = .ok (.irem, 1) := by decide +kernel
theorem dX8_folds_3 : decode cX8_folds 3 = .ok (.ifCond .ne 21, 3) := by decide +kernel
theorem dX8_folds_6 : decode cX8_folds 6 = .ok (.iload_n 2, 1) := by decide +kernel
theorem dX8_folds_7 : decode cX8_folds 7 = .ok (.aload_n 0, 1) := by decide +kernel
theorem dX8_folds_8 : decode cX8_folds 8 = .ok (.getfield 32, 3) := by decide +kernel
theorem dX8_folds_11 : decode cX8_folds 11 = .ok (.iload_n 1, 1) := by decide +kernel
theorem dX8_folds_12 : decode cX8_folds 12 = .ok (.iaload, 1) := by decide +kernel
theorem dX8_folds_13 : decode cX8_folds 13 = .ok (.if_icmp .le 7, 3) := by decide +kernel
theorem dX8_folds_16 : decode cX8_folds 16 = .ok (.iconst 1, 1) := by decide +kernel
theorem dX8_folds_17 : decode cX8_folds 17 = .ok (.goto 22, 3) := by decide +kernel
theorem dX8_folds_20 : decode cX8_folds 20 = .ok (.iconst 0, 1) := by decide +kernel
theorem dX8_folds_21 : decode cX8_folds 21 = .ok (.goto 18, 3) := by decide +kernel
theorem dX8_folds_24 : decode cX8_folds 24 = .ok (.iload_n 2, 1) := by decide +kernel
theorem dX8_folds_25 : decode cX8_folds 25 = .ok (.aload_n 0, 1) := by decide +kernel
theorem dX8_folds_26 : decode cX8_folds 26 = .ok (.getfield 32, 3) := by decide +kernel
theorem dX8_folds_29 : decode cX8_folds 29 = .ok (.iload_n 1, 1) := by decide +kernel
theorem dX8_folds_30 : decode cX8_folds 30 = .ok (.iaload, 1) := by decide +kernel
theorem dX8_folds_31 : decode cX8_folds 31 = .ok (.if_icmp .ge 7, 3) := by decide +kernel
theorem dX8_folds_34 : decode cX8_folds 34 = .ok (.iconst 1, 1) := by decide +kernel
theorem dX8_folds_35 : decode cX8_folds 35 = .ok (.goto 4, 3) := by decide +kernel
theorem dX8_folds_38 : decode cX8_folds 38 = .ok (.iconst 0, 1) := by decide +kernel
theorem dX8_folds_39 : decode cX8_folds 39 = .ok (.istore_n 3, 1) := by decide +kernel
theorem dX8_folds_40 : decode cX8_folds 40 = .ok (.aload_n 0, 1) := by decide +kernel
theorem dX8_folds_41 : decode cX8_folds 41 = .ok (.getfield 32, 3) := by decide +kernel
theorem dX8_folds_44 : decode cX8_folds 44 = .ok (.iload_n 1, 1) := by decide +kernel
theorem dX8_folds_45 : decode cX8_folds 45 = .ok (.iload_n 3, 1) := by decide +kernel
theorem dX8_folds_46 : decode cX8_folds 46 = .ok (.ifCond .eq 7, 3) := by decide +kernel
theorem dX8_folds_49 : decode cX8_folds 49 = .ok (.iload_n 2, 1) := by decide +kernel
theorem dX8_folds_50 : decode cX8_folds 50 = .ok (.goto 9, 3) := by decide +kernel
theorem dX8_folds_53 : decode cX8_folds 53 = .ok (.aload_n 0, 1) := by decide +kernel
theorem dX8_folds_54 : decode cX8_folds 54 = .ok (.getfield 32, 3) := by decide +kernel
theorem dX8_folds_57 : decode cX8_folds 57 = .ok (.iload_n 1, 1) := by decide +kernel
theorem dX8_folds_58 : decode cX8_folds 58 = .ok (.iaload, 1) := by decide +kernel
theorem dX8_folds_59 : decode cX8_folds 59 = .ok (.iastore, 1) := by decide +kernel
theorem dX8_folds_60 : decode cX8_folds 60 = .ok (.return_, 1) := by decide +kernel
theorem dX8_forgets_0 : decode cX8_forgets 0 = .ok (.aload_n 0, 1) := by decide +kernel
theorem dX8_forgets_1 : decode cX8_forgets 1 = .ok (.getfield 32, 3) := by decide +kernel
theorem dX8_forgets_4 : decode cX8_forgets 4 = .ok (.iload_n 1, 1) := by decide +kernel
theorem dX8_forgets_5 : decode cX8_forgets 5 = .ok (.iload_n 1, 1) := by decide +kernel
