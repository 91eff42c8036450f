theorem dX8_init_0 : decode cX8_init 0 = .ok (.aload_n 0, 1) := by decide +kernel
theorem dX8_init_1 : decode cX8_init 1 = .ok (.invokespecial 1, 3) := by decide +kernel
theorem dX8_init_4 : decode cX8_init 4 = .ok (.aload_n 0, 1) := by decide +kernel
theorem dX8_init_5 : decode cX8_init 5 = .ok (.bipush 12, 2) := by decide +kernel
theorem dX8_init_7 : decode cX8_init 7 = .ok (.newarray .int, 2) := by decide +kernel
theorem dX8_init_9 : decode cX8_init 9 = .ok (.putfield 7, 3) := by decide +kernel
theorem dX8_init_12 : decode cX8_init 12 = .ok (.aload_n 0, 1) := by decide +kernel
theorem dX8_init_13 : decode cX8_init 13 = .ok (.bipush 12, 2) := by decide +kernel
theorem dX8_init_15 : decode cX8_init 15 = .ok (.newarray .int, 2) := by decide +kernel
theorem dX8_init_17 : decode cX8_init 17 = .ok (.putfield 13, 3) := by decide +kernel
theorem dX8_init_20 : decode cX8_init 20 = .ok (.aload_n 0, 1) := by decide +kernel
theorem dX8_init_21 : decode cX8_init 21 = .ok (.sipush 156, 3) := by decide +kernel
theorem dX8_init_24 : decode cX8_init 24 = .ok (.newarray .int, 2) := by decide +kernel
theorem dX8_init_26 : decode cX8_init 26 = .ok (.putfield 16, 3) := by decide +kernel
theorem dX8_init_29 : decode cX8_init 29 = .ok (.aload_n 0, 1) := by decide +kernel
theorem dX8_init_30 : decode cX8_init 30 = .ok (.sipush 200, 3) := by decide +kernel
theorem dX8_init_33 : decode cX8_init 33 = .ok (.newarray .byte, 2) := by decide +kernel
theorem dX8_init_35 : decode cX8_init 35 = .ok (.putfield 19, 3) := by decide +kernel
theorem dX8_init_38 : decode cX8_init 38 = .ok (.aload_n 0, 1) := by decide +kernel
theorem dX8_init_39 : decode cX8_init 39 = .ok (.bipush 6, 2) := by decide +kernel
theorem dX8_init_41 : decode cX8_init 41 = .ok (.newarray .int, 2) := by decide +kernel
theorem dX8_init_43 : decode cX8_init 43 = .ok (.putfield 23, 3) := by decide +kernel
theorem dX8_init_46 : decode cX8_init 46 = .ok (.aload_n 0, 1) := by decide +kernel
theorem dX8_init_47 : decode cX8_init 47 = .ok (.bipush 6, 2) := by decide +kernel
theorem dX8_init_49 : decode cX8_init 49 = .ok (.newarray .int, 2) := by decide +kernel
theorem dX8_init_51 : decode cX8_init 51 = .ok (.putfield 26, 3) := by decide +kernel
theorem dX8_init_54 : decode cX8_init 54 = .ok (.aload_n 0, 1) := by decide +kernel
theorem dX8_init_55 : decode cX8_init 55 = .ok (.bipush 6, 2) := by decide +kernel
theorem dX8_init_57 : decode cX8_init 57 = .ok (.newarray .int, 2) := by decide +kernel
theorem dX8_init_59 : decode cX8_init 59 = .ok (.putfield 29, 3) := by decide +kernel
theorem dX8_init_62 : decode cX8_init 62 = .ok (.aload_n 0, 1) := by decide +kernel
theorem dX8_init_63 : decode cX8_init 63 = .ok (.bipush 6, 2) := by decide +kernel
theorem dX8_init_65 : decode cX8_init 65 = .ok (.newarray .int, 2) := by decide +kernel
theorem dX8_init_67 : decode cX8_init 67 = .ok (.putfield 32, 3) := by decide +kernel
theorem dX8_init_70 : decode cX8_init 70 = .ok (.aload_n 0, 1) := by decide +kernel
theorem dX8_init_71 : decode cX8_init 71 = .ok (.bipush 10, 2) := by decide +kernel
theorem dX8_init_73 : decode cX8_init 73 = .ok (.putfield 35, 3) := by decide +kernel
theorem dX8_init_76 : decode cX8_init 76 = .ok (.aload_n 0, 1) := by decide +kernel
theorem dX8_init_77 : decode cX8_init 77 = .ok (.iconst 2, 1) := by decide +kernel
theorem dX8_init_78 : decode cX8_init 78 = .ok (.putfield 39, 3) := by decide +kernel
theorem dX8_init_81 : decode cX8_init 81 = .ok (.iconst 0, 1) := by decide +kernel
theorem dX8_init_82 : decode cX8_init 82 = .ok (.istore_n 1, 1) := by decide +kernel
theorem dX8_init_83 : decode cX8_init 83 = .ok (.iload_n 1, 1) := by decide +kernel
theorem dX8_init_84 : decode cX8_init 84 = .ok (.bipush 12, 2) := by decide +kernel
theorem dX8_init_86 : decode cX8_init 86 = .ok (.if_icmp .ge 66, 3) := by decide +kernel
theorem dX8_init_89 : decode cX8_init 89 = .ok (.aload_n 0, 1) := by decide +kernel
theorem dX8_init_90 : decode cX8_init 90 = .ok (.getfield 7, 3) := by decide +kernel
theorem dX8_init_93 : decode cX8_init 93 = .ok (.iload_n 1, 1) := by decide +kernel
theorem dX8_init_94 : decode cX8_init 94 = .ok (.iload_n 1, 1) := by decide +kernel
theorem dX8_init_95 : decode cX8_init 95 = .ok (.ifCond .eq 9, 3) := by decide +kernel
theorem dX8_init_98 : decode cX8_init 98 = .ok (.iload_n 1, 1) := by decide +kernel
theorem dX8_init_99 : decode cX8_init 99 = .ok (.bipush 11, 2) := by decide +kernel
theorem dX8_init_101 : decode cX8_init 101 = .ok (.if_icmp .ne 7, 3) := by decide +kernel
theorem dX8_init_104 : decode cX8_init 104 = .ok (.iconst 2, 1) := by decide +kernel
theorem dX8_init_105 : decode cX8_init 105 = .ok (.goto 40, 3) := by decide +kernel
theorem dX8_init_108 : decode cX8_init 108 = .ok (.iload_n 1, 1) := by decide +kernel
theorem dX8_init_109 : decode cX8_init 109 = .ok (.iconst 1, 1) := by decide +kernel
theorem dX8_init_110 : decode cX8_init 110 = .ok (.if_icmp .ne 7, 3) := by decide +kernel
theorem dX8_init_113 : decode cX8_init 113 = .ok (.iconst 3, 1) := by decide +kernel
theorem dX8_init_114 : decode cX8_init 114 = .ok (.goto 31, 3) := by decide +kernel
theorem dX8_init_117 : decode cX8_init 117 = .ok (.iload_n 1, 1) := by decide +kernel
theorem dX8_init_118 : decode cX8_init 118 = .ok (.iconst 5, 1) := by decide +kernel
theorem dX8_init_119 : decode cX8_init 119 = .ok (.if_icmp .eq 9, 3) := by decide +kernel
theorem dX8_init_122 : decode cX8_init 122 = .ok (.iload_n 1, 1) := by decide +kernel
theorem dX8_init_123 : decode cX8_init 123 = .ok (.bipush 7, 2) := by decide +kernel
theorem dX8_init_125 : decode cX8_init 125 = .ok (.if_icmp .ne 8, 3) := by decide +kernel
theorem dX8_init_128 : decode cX8_init 128 = .ok (.bipush 8, 2) := by decide +kernel
theorem dX8_init_130 : decode cX8_init 130 = .ok (.goto 15, 3) := by decide +kernel
theorem dX8_init_133 : decode cX8_init 133 = .ok (.iload_n 1, 1) := by decide +kernel
theorem dX8_init_134 : decode cX8_init 134 = .ok (.bipush 6, 2) := by decide +kernel
theorem dX8_init_136 : decode cX8_init 136 = .ok (.if_icmp .ne 8, 3) := by decide +kernel
theorem dX8_init_139 : decode cX8_init 139 = .ok (.bipush 9, 2) := by decide +kernel
theorem dX8_init_141 : decode cX8_init 141 = .ok (.goto 4, 3) := by decide +kernel
theorem dX8_init_144 : decode cX8_init 144 = .ok (.iconst 5, 1) := by decide +kernel
theorem dX8_init_145 : decode cX8_init 145 = .ok (.iastore, 1) := by decide +kernel
theorem dX8_init_146 : decode cX8_init 146 = .ok (.iinc 1 1, 3) := by decide +kernel
theorem dX8_init_149 : decode cX8_init 149 = .ok (.goto (-66), 3) := by decide +kernel
theorem dX8_init_152 : decode cX8_init 152 = .ok (.aload_n 0, 1) := by decide +kernel
theorem dX8_init_153 : decode cX8_init 153 = .ok (.sipush 192, 3) := by decide +kernel
theorem dX8_init_156 : decode cX8_init 156 = .ok (.putfield 42, 3) := by decide +kernel
theorem dX8_init_159 : decode cX8_init 159 = .ok (.aload_n 0, 1) := by decide +kernel
theorem dX8_init_160 : decode cX8_init 160 = .ok (.getfield 16, 3) := by decide +kernel
theorem dX8_init_163 : decode cX8_init 163 = .ok (.iconst 1, 1) := by decide +kernel
theorem dX8_init_164 : decode cX8_init 164 = .ok (.iconst 4, 1) := by decide +kernel
theorem dX8_init_165 : decode cX8_init 165 = .ok (.iastore, 1) := by decide +kernel
theorem dX8_init_166 : decode cX8_init 166 = .ok (.aload_n 0, 1) := by decide +kernel
theorem dX8_init_167 : decode cX8_init 167 = .ok (.getfield 16, 3) := by decide +kernel
theorem dX8_init_170 : decode cX8_init 170 = .ok (.iconst 2, 1) := by decide +kernel
theorem dX8_init_171 : decode cX8_init 171 = .ok (.iconst 3, 1) := by decide +kernel
theorem dX8_init_172 : decode cX8_init 172 = .ok (.iastore, 1) := by decide +kernel
theorem dX8_init_173 : decode cX8_init 173 = .ok (.aload_n 0, 1) := by decide +kernel
theorem dX8_init_174 : decode cX8_init 174 = .ok (.getfield 16, 3) := by decide +kernel
theorem dX8_init_177 : decode cX8_init 177 = .ok (.iconst 3, 1) := by decide +kernel
theorem dX8_init_178 : decode cX8_init 178 = .ok (.iconst 5, 1) := by decide +kernel
theorem dX8_init_179 : decode cX8_init 179 = .ok (.iastore, 1) := by decide +kernel
theorem dX8_init_180 : decode cX8_init 180 = .ok (.aload_n 0, 1) := by decide +kernel
theorem dX8_init_181 : decode cX8_init 181 = .ok (.getfield 16, 3) := by decide +kernel
theorem dX8_init_184 : decode cX8_init 184 = .ok (.bipush 6, 2) := by decide +kernel
theorem dX8_init_186 : decode cX8_init 186 = .ok (.bipush 25, 2) := by decide +kernel
theorem dX8_init_188 : decode cX8_init 188 = .ok (.iastore, 1) := by decide +kernel
theorem dX8_init_189 : decode cX8_init 189 = .ok (.aload_n 0, 1) := by decide +kernel
theorem dX8_init_190 : decode cX8_init 190 = .ok (.getfield 16, 3) := by decide +kernel
theorem dX8_init_193 : decode cX8_init 193 = .ok (.bipush 7, 2) := by decide +kernel
theorem dX8_init_195 : decode cX8_init 195 = .ok (.bipush 30, 2) := by decide +kernel
theorem dX8_init_197 : decode cX8_init 197 = .ok (.iastore, 1) := by decide +kernel
theorem dX8_init_198 : decode cX8_init 198 = .ok (.aload_n 0, 1) := by decide +kernel
theorem dX8_init_199 : decode cX8_init 199 = .ok (.getfield 16, 3) := by decide +kernel
theorem dX8_init_202 : decode cX8_init 202 = .ok (.bipush 10, 2) := by decide +kernel
theorem dX8_init_204 : decode cX8_init 204 = .ok (.bipush 9, 2) := by decide +kernel
theorem dX8_init_206 : decode cX8_init 206 = .ok (.iastore, 1) := by decide +kernel
theorem dX8_init_207 : decode cX8_init 207 = .ok (.aload_n 0, 1) := by decide +kernel
theorem dX8_init_208 : decode cX8_init 208 = .ok (.getfield 16, 3) := by decide +kernel
theorem dX8_init_211 : decode cX8_init 211 = .ok (.bipush 12, 2) := by decide +kernel
theorem dX8_init_213 : decode cX8_init 213 = .ok (.bipush (-4), 2) := by decide +kernel
theorem dX8_init_215 : decode cX8_init 215 = .ok (.iastore, 1) := by decide +kernel
theorem dX8_init_216 : decode cX8_init 216 = .ok (.return_, 1) := by decide +kernel
theorem dX8_in_0 : decode cX8_in 0 = .ok (.lload_n 0, 1) := by decide +kernel
theorem dX8_in_1 : decode cX8_in 1 = .ok (.lload_n 2, 1) := by decide +kernel
theorem dX8_in_2 : decode cX8_in 2 = .ok (.lcmp, 1) := by decide +kernel
theorem dX8_in_3 : decode cX8_in 3 = .ok (.ifCond .lt 14, 3) := by decide +kernel
theorem dX8_in_6 : decode cX8_in 6 = .ok (.lload_n 0, 1) := by decide +kernel
theorem dX8_in_7 : decode cX8_in 7 = .ok (.lload 4, 2) := by decide +kernel
theorem dX8_in_9 : decode cX8_in 9 = .ok (.lcmp, 1) := by decide +kernel
theorem dX8_in_10 : decode cX8_in 10 = .ok (.ifCond .gt 7, 3) := by decide +kernel
theorem dX8_in_13 : decode cX8_in 13 = .ok (.iconst 1, 1) := by decide +kernel
theorem dX8_in_14 : decode cX8_in 14 = .ok (.goto 4, 3) := by decide +kernel
theorem dX8_in_17 : decode cX8_in 17 = .ok (.iconst 0, 1) := by decide +kernel
theorem dX8_in_18 : decode cX8_in 18 = .ok (.ireturn, 1) := by decide +kernel
theorem dX8_larger_0 : decode cX8_larger 0 = .ok (.iload_n 0, 1) := by decide +kernel
theorem dX8_larger_1 : decode cX8_larger 1 = .ok (.iload_n 1, 1) := by decide +kernel
theorem dX8_larger_2 : decode cX8_larger 2 = .ok (.if_icmp .ge 7, 3) := by decide +kernel
theorem dX8_larger_5 : decode cX8_larger 5 = .ok (.iload_n 1, 1) := by decide +kernel
theorem dX8_larger_6 : decode cX8_larger 6 = .ok (.goto 4, 3) := by decide +kernel
theorem dX8_larger_9 : decode cX8_larger 9 = .ok (.iload_n 0, 1) := by decide +kernel
theorem dX8_larger_10 : decode cX8_larger 10 = .ok (.ireturn, 1) := by decide +kernel
theorem dX8_smaller_0 : decode cX8_smaller 0 = .ok (.iload_n 0, 1) := by decide +kernel
theorem dX8_smaller_1 : decode cX8_smaller 1 = .ok (.iload_n 1, 1) := by decide +kernel
theorem dX8_smaller_2 : decode cX8_smaller 2 = .ok (.if_icmp .ge 7, 3) := by decide +kernel
theorem dX8_smaller_5 : decode cX8_smaller 5 = .ok (.iload_n 0, 1) := by decide +kernel
theorem dX8_smaller_6 : decode cX8_smaller 6 = .ok (.goto 4, 3) := by decide +kernel
theorem dX8_smaller_9 : decode cX8_smaller 9 = .ok (.iload_n 1, 1) := by decide +kernel
theorem dX8_smaller_10 : decode cX8_smaller 10 = .ok (.ireturn, 1) := by decide +kernel
theorem dX8_copies_0 : decode cX8_copies 0 = .ok (.iconst 0, 1) := by decide +kernel
theorem dX8_copies_1 : decode cX8_copies 1 = .ok (.istore_n 3, 1) := by decide +kernel
theorem dX8_copies_2 : decode cX8_copies 2 = .ok (.iload_n 3, 1) := by decide +kernel
theorem dX8_copies_3 : decode cX8_copies 3 = .ok (.bipush 13, 2) := by decide +kernel
theorem dX8_copies_5 : decode cX8_copies 5 = .ok (.if_icmp .ge 25, 3) := by decide +kernel
theorem dX8_copies_8 : decode cX8_copies 8 = .ok (.aload_n 0, 1) := by decide +kernel
theorem dX8_copies_9 : decode cX8_copies 9 = .ok (.getfield 16, 3) := by decide +kernel
theorem dX8_copies_12 : decode cX8_copies 12 = .ok (.iload_n 2, 1) := by decide +kernel
theorem dX8_copies_13 : decode cX8_copies 13 = .ok (.iload_n 3, 1) := by decide +kernel
theorem dX8_copies_14 : decode cX8_copies 14 = .ok (.iadd, 1) := by decide +kernel
theorem dX8_copies_15 : decode cX8_copies 15 = .ok (.aload_n 0, 1) := by decide +kernel
theorem dX8_copies_16 : decode cX8_copies 16 = .ok (.getfield 16, 3) := by decide +kernel
theorem dX8_copies_19 : decode cX8_copies 19 = .ok (.iload_n 1, 1) := by decide +kernel
theorem dX8_copies_20 : decode cX8_copies 20 = .ok (.iload_n 3, 1) := by decide +kernel
theorem dX8_copies_21 : decode cX8_copies 21 = .ok (.iadd, 1) := by decide +kernel
theorem dX8_copies_22 : decode cX8_copies 22 = .ok (.iaload, 1) := by decide +kernel
theorem dX8_copies_23 : decode cX8_copies 23 = .ok (.iastore, 1) := by decide +kernel
theorem dX8_copies_24 : decode cX8_copies 24 = .ok (.iinc 3 1, 3) := by decide +kernel
theorem dX8_copies_27 : decode cX8_copies 27 = .ok (.goto (-25), 3) := by decide +kernel
theorem dX8_copies_30 : decode cX8_copies 30 = .ok (.return_, 1) := by decide +kernel
theorem dX8_write_0 : decode cX8_write 0 = .ok (.iload_n 1, 1) := by decide +kernel
theorem dX8_write_1 : decode cX8_write 1 = .ok (.i2l, 1) := by decide +kernel
theorem dX8_write_2 : decode cX8_write 2 = .ok (.ldc2_w 45, 3) := by decide +kernel
theorem dX8_write_5 : decode cX8_write 5 = .ok (.ldc2_w 47, 3) := by decide +kernel
theorem dX8_write_8 : decode cX8_write 8 = .ok (.invokestatic 49, 3) := by decide +kernel
theorem dX8_write_11 : decode cX8_write 11 = .ok (.ifCond .ne 5, 3) := by decide +kernel
theorem dX8_write_14 : decode cX8_write 14 = .ok (.iconst (-1), 1) := by decide +kernel
theorem dX8_write_15 : decode cX8_write 15 = .ok (.ireturn, 1) := by decide +kernel
theorem dX8_write_16 : decode cX8_write 16 = .ok (.aload_n 0, 1) := by decide +kernel
theorem dX8_write_17 : decode cX8_write 17 = .ok (.getfield 53, 3) := by decide +kernel
theorem dX8_write_20 : decode cX8_write 20 = .ok (.sipush 200, 3) := by decide +kernel
theorem dX8_write_23 : decode cX8_write 23 = .ok (.if_icmp .ne 6, 3) := by decide +kernel
theorem dX8_write_26 : decode cX8_write 26 = .ok (.bipush (-3), 2) := by decide +kernel
theorem dX8_write_28 : decode cX8_write 28 = .ok (.ireturn, 1) := by decide +kernel
theorem dX8_write_29 : decode cX8_write 29 = .ok (.aload_n 0, 1) := by decide +kernel
theorem dX8_write_30 : decode cX8_write 30 = .ok (.getfield 19, 3) := by decide +kernel
theorem dX8_write_33 : decode cX8_write 33 = .ok (.aload_n 0, 1) := by decide +kernel
theorem dX8_write_34 : decode cX8_write 34 = .ok (.getfield 53, 3) := by decide +kernel
theorem dX8_write_37 : decode cX8_write 37 = .ok (.iload_n 1, 1) := by decide +kernel
theorem dX8_write_38 : decode cX8_write 38 = .ok (.i2b, 1) := by decide +kernel
theorem dX8_write_39 : decode cX8_write 39 = .ok (.bastore, 1) := by decide +kernel
theorem dX8_write_40 : decode cX8_write 40 = .ok (.aload_n 0, 1) := by decide +kernel
theorem dX8_write_41 : decode cX8_write 41 = .ok (.dup, 1) := by decide +kernel
theorem dX8_write_42 : decode cX8_write 42 = .ok (.getfield 53, 3) := by decide +kernel
theorem dX8_write_45 : decode cX8_write 45 = .ok (.iconst 1, 1) := by decide +kernel
theorem dX8_write_46 : decode cX8_write 46 = .ok (.iadd, 1) := by decide +kernel
theorem dX8_write_47 : decode cX8_write 47 = .ok (.putfield 53, 3) := by decide +kernel
theorem dX8_write_50 : decode cX8_write 50 = .ok (.aload_n 0, 1) := by decide +kernel
theorem dX8_write_51 : decode cX8_write 51 = .ok (.getfield 53, 3) := by decide +kernel
theorem dX8_write_54 : decode cX8_write 54 = .ok (.ireturn, 1) := by decide +kernel
theorem dX8_wipe_0 : decode cX8_wipe 0 = .ok (.aload_n 0, 1) := by decide +kernel
theorem dX8_wipe_1 : decode cX8_wipe 1 = .ok (.getfield 53, 3) := by decide +kernel
theorem dX8_wipe_4 : decode cX8_wipe 4 = .ok (.istore_n 1, 1) := by decide +kernel
theorem dX8_wipe_5 : decode cX8_wipe 5 = .ok (.aload_n 0, 1) := by decide +kernel
theorem dX8_wipe_6 : decode cX8_wipe 6 = .ok (.iconst 0, 1) := by decide +kernel
theorem dX8_wipe_7 : decode cX8_wipe 7 = .ok (.putfield 53, 3) := by decide +kernel
theorem dX8_wipe_10 : decode cX8_wipe 10 = .ok (.iload_n 1, 1) := by decide +kernel
theorem dX8_wipe_11 : decode cX8_wipe 11 = .ok (.ireturn, 1) := by decide +kernel
theorem dX8_next_0 : decode cX8_next 0 = .ok (.aload_n 0, 1) := by decide +kernel
theorem dX8_next_1 : decode cX8_next 1 = .ok (.getfield 56, 3) := by decide +kernel
theorem dX8_next_4 : decode cX8_next 4 = .ok (.aload_n 0, 1) := by decide +kernel
theorem dX8_next_5 : decode cX8_next 5 = .ok (.getfield 53, 3) := by decide +kernel
theorem dX8_next_8 : decode cX8_next 8 = .ok (.if_icmp .ge 15, 3) := by decide +kernel
theorem dX8_next_11 : decode cX8_next 11 = .ok (.aload_n 0, 1) := by decide +kernel
theorem dX8_next_12 : decode cX8_next 12 = .ok (.getfield 19, 3) := by decide +kernel
theorem dX8_next_15 : decode cX8_next 15 = .ok (.aload_n 0, 1) := by decide +kernel
theorem dX8_next_16 : decode cX8_next 16 = .ok (.getfield 56, 3) := by decide +kernel
theorem dX8_next_19 : decode cX8_next 19 = .ok (.baload, 1) := by decide +kernel
theorem dX8_next_20 : decode cX8_next 20 = .ok (.goto 4, 3) := by decide +kernel
theorem dX8_next_23 : decode cX8_next 23 = .ok (.iconst (-1), 1) := by decide +kernel
theorem dX8_next_24 : decode cX8_next 24 = .ok (.ireturn, 1) := by decide +kernel
theorem dX8_number_0 : decode cX8_number 0 = .ok (.iconst 0, 1) := by decide +kernel
theorem dX8_number_1 : decode cX8_number 1 = .ok (.istore_n 3, 1) := by decide +kernel
theorem dX8_number_2 : decode cX8_number 2 = .ok (.iconst 0, 1) := by decide +kernel
theorem dX8_number_3 : decode cX8_number 3 = .ok (.istore 4, 2) := by decide +kernel
theorem dX8_number_5 : decode cX8_number 5 = .ok (.aload_n 0, 1) := by decide +kernel
theorem dX8_number_6 : decode cX8_number 6 = .ok (.invokevirtual 59, 3) := by decide +kernel
theorem dX8_number_9 : decode cX8_number 9 = .ok (.i2l, 1) := by decide +kernel
theorem dX8_number_10 : decode cX8_number 10 = .ok (.ldc2_w 63, 3) := by decide +kernel
theorem dX8_number_13 : decode cX8_number 13 = .ok (.ldc2_w 65, 3) := by decide +kernel
theorem dX8_number_16 : decode cX8_number 16 = .ok (.invokestatic 49, 3) := by decide +kernel
theorem dX8_number_19 : decode cX8_number 19 = .ok (.ifCond .eq 38, 3) := by decide +kernel
theorem dX8_number_22 : decode cX8_number 22 = .ok (.iload 4, 2) := by decide +kernel
theorem dX8_number_24 : decode cX8_number 24 = .ok (.iconst 3, 1) := by decide +kernel
theorem dX8_number_25 : decode cX8_number 25 = .ok (.if_icmp .ge 32, 3) := by decide +kernel
theorem dX8_number_28 : decode cX8_number 28 = .ok (.bipush 10, 2) := by decide +kernel
theorem dX8_number_30 : decode cX8_number 30 = .ok (.iload_n 3, 1) := by decide +kernel
theorem dX8_number_31 : decode cX8_number 31 = .ok (.imul, 1) := by decide +kernel
theorem dX8_number_32 : decode cX8_number 32 = .ok (.aload_n 0, 1) := by decide +kernel
theorem dX8_number_33 : decode cX8_number 33 = .ok (.invokevirtual 59, 3) := by decide +kernel
theorem dX8_number_36 : decode cX8_number 36 = .ok (.iadd, 1) := by decide +kernel
theorem dX8_number_37 : decode cX8_number 37 = .ok (.bipush 48, 2) := by decide +kernel
theorem dX8_number_39 : decode cX8_number 39 = .ok (.isub, 1) := by decide +kernel
theorem dX8_number_40 : decode cX8_number 40 = .ok (.istore_n 3, 1) := by decide +kernel
theorem dX8_number_41 : decode cX8_number 41 = .ok (.iinc 4 1, 3) := by decide +kernel
theorem dX8_number_44 : decode cX8_number 44 = .ok (.aload_n 0, 1) := by decide +kernel
theorem dX8_number_45 : decode cX8_number 45 = .ok (.dup, 1) := by decide +kernel
theorem dX8_number_46 : decode cX8_number 46 = .ok (.getfield 56, 3) := by decide +kernel
theorem dX8_number_49 : decode cX8_number 49 = .ok (.iconst 1, 1) := by decide +kernel
theorem dX8_number_50 : decode cX8_number 50 = .ok (.iadd, 1) := by decide +kernel
theorem dX8_number_51 : decode cX8_number 51 = .ok (.putfield 56, 3) := by decide +kernel
theorem dX8_number_54 : decode cX8_number 54 = .ok (.goto (-49), 3) := by decide +kernel
theorem dX8_number_57 : decode cX8_number 57 = .ok (.aload_n 0, 1) := by decide +kernel
theorem dX8_number_58 : decode cX8_number 58 = .ok (.aload_n 0, 1) := by decide +kernel
theorem dX8_number_59 : decode cX8_number 59 = .ok (.getfield 67, 3) := by decide +kernel
theorem dX8_number_62 : decode cX8_number 62 = .ok (.ifCond .ne 26, 3) := by decide +kernel
theorem dX8_number_65 : decode cX8_number 65 = .ok (.iload 4, 2) := by decide +kernel
theorem dX8_number_67 : decode cX8_number 67 = .ok (.ifCond .eq 21, 3) := by decide +kernel
theorem dX8_number_70 : decode cX8_number 70 = .ok (.iload 4, 2) := by decide +kernel
theorem dX8_number_72 : decode cX8_number 72 = .ok (.iconst 2, 1) := by decide +kernel
theorem dX8_number_73 : decode cX8_number 73 = .ok (.if_icmp .gt 15, 3) := by decide +kernel
theorem dX8_number_76 : decode cX8_number 76 = .ok (.iload_n 3, 1) := by decide +kernel
theorem dX8_number_77 : decode cX8_number 77 = .ok (.i2l, 1) := by decide +kernel
theorem dX8_number_78 : decode cX8_number 78 = .ok (.iload_n 1, 1) := by decide +kernel
theorem dX8_number_79 : decode cX8_number 79 = .ok (.i2l, 1) := by decide +kernel
theorem dX8_number_80 : decode cX8_number 80 = .ok (.iload_n 2, 1) := by decide +kernel
theorem dX8_number_81 : decode cX8_number 81 = .ok (.i2l, 1) := by decide +kernel
theorem dX8_number_82 : decode cX8_number 82 = .ok (.invokestatic 49, 3) := by decide +kernel
theorem dX8_number_85 : decode cX8_number 85 = .ok (.ifCond .ne 7, 3) := by decide +kernel
theorem dX8_number_88 : decode cX8_number 88 = .ok (.iconst 1, 1) := by decide +kernel
theorem dX8_number_89 : decode cX8_number 89 = .ok (.goto 4, 3) := by decide +kernel
theorem dX8_number_92 : decode cX8_number 92 = .ok (.iconst 0, 1) := by decide +kernel
theorem dX8_number_93 : decode cX8_number 93 = .ok (.putfield 67, 3) := by decide +kernel
theorem dX8_number_96 : decode cX8_number 96 = .ok (.aload_n 0, 1) := by decide +kernel
theorem dX8_number_97 : decode cX8_number 97 = .ok (.getfield 67, 3) := by decide +kernel
theorem dX8_number_100 : decode cX8_number 100 = .ok (.ifCond .eq 7, 3) := by decide +kernel
theorem dX8_number_103 : decode cX8_number 103 = .ok (.iconst 0, 1) := by decide +kernel
theorem dX8_number_104 : decode cX8_number 104 = .ok (.goto 4, 3) := by decide +kernel
theorem dX8_number_107 : decode cX8_number 107 = .ok (.iload_n 3, 1) := by decide +kernel
theorem dX8_number_108 : decode cX8_number 108 = .ok (.ireturn, 1) := by decide +kernel
theorem dX8_more_0 : decode cX8_more 0 = .ok (.aload_n 0, 1) := by decide +kernel
theorem dX8_more_1 : decode cX8_more 1 = .ok (.aload_n 0, 1) := by decide +kernel
theorem dX8_more_2 : decode cX8_more 2 = .ok (.getfield 67, 3) := by decide +kernel
theorem dX8_more_5 : decode cX8_more 5 = .ok (.ifCond .ne 12, 3) := by decide +kernel
theorem dX8_more_8 : decode cX8_more 8 = .ok (.aload_n 0, 1) := by decide +kernel
theorem dX8_more_9 : decode cX8_more 9 = .ok (.invokevirtual 59, 3) := by decide +kernel
theorem dX8_more_12 : decode cX8_more 12 = .ok (.bipush 44, 2) := by decide +kernel
theorem dX8_more_14 : decode cX8_more 14 = .ok (.if_icmp .eq 7, 3) := by decide +kernel
theorem dX8_more_17 : decode cX8_more 17 = .ok (.iconst 1, 1) := by decide +kernel
theorem dX8_more_18 : decode cX8_more 18 = .ok (.goto 4, 3) := by decide +kernel
theorem dX8_more_21 : decode cX8_more 21 = .ok (.iconst 0, 1) := by decide +kernel
theorem dX8_more_22 : decode cX8_more 22 = .ok (.putfield 67, 3) := by decide +kernel
theorem dX8_more_25 : decode cX8_more 25 = .ok (.aload_n 0, 1) := by decide +kernel
theorem dX8_more_26 : decode cX8_more 26 = .ok (.dup, 1) := by decide +kernel
theorem dX8_more_27 : decode cX8_more 27 = .ok (.getfield 56, 3) := by decide +kernel
theorem dX8_more_30 : decode cX8_more 30 = .ok (.iconst 1, 1) := by decide +kernel
theorem dX8_more_31 : decode cX8_more 31 = .ok (.iadd, 1) := by decide +kernel
theorem dX8_more_32 : decode cX8_more 32 = .ok (.putfield 56, 3) := by decide +kernel
theorem dX8_more_35 : decode cX8_more 35 = .ok (.aload_n 0, 1) := by decide +kernel
theorem dX8_more_36 : decode cX8_more 36 = .ok (.getfield 67, 3) := by decide +kernel
theorem dX8_more_39 : decode cX8_more 39 = .ok (.ifCond .eq 7, 3) := by decide +kernel
theorem dX8_more_42 : decode cX8_more 42 = .ok (.iconst 0, 1) := by decide +kernel
theorem dX8_more_43 : decode cX8_more 43 = .ok (.goto 9, 3) := by decide +kernel
theorem dX8_more_46 : decode cX8_more 46 = .ok (.aload_n 0, 1) := by decide +kernel
theorem dX8_more_47 : decode cX8_more 47 = .ok (.iload_n 1, 1) := by decide +kernel
theorem dX8_more_48 : decode cX8_more 48 = .ok (.iload_n 2, 1) := by decide +kernel
theorem dX8_more_49 : decode cX8_more 49 = .ok (.invokevirtual 71, 3) := by decide +kernel
theorem dX8_more_52 : decode cX8_more 52 = .ok (.ireturn, 1) := by decide +kernel
theorem dX8_hedgeItem_0 : decode cX8_hedgeItem 0 = .ok (.aload_n 0, 1) := by decide +kernel
theorem dX8_hedgeItem_1 : decode cX8_hedgeItem 1 = .ok (.iconst 0, 1) := by decide +kernel
theorem dX8_hedgeItem_2 : decode cX8_hedgeItem 2 = .ok (.iconst 1, 1) := by decide +kernel
theorem dX8_hedgeItem_3 : decode cX8_hedgeItem 3 = .ok (.invokevirtual 71, 3) := by decide +kernel
theorem dX8_hedgeItem_6 : decode cX8_hedgeItem 6 = .ok (.istore_n 1, 1) := by decide +kernel
theorem dX8_hedgeItem_7 : decode cX8_hedgeItem 7 = .ok (.aload_n 0, 1) := by decide +kernel
theorem dX8_hedgeItem_8 : decode cX8_hedgeItem 8 = .ok (.iconst 0, 1) := by decide +kernel
theorem dX8_hedgeItem_9 : decode cX8_hedgeItem 9 = .ok (.iconst 4, 1) := by decide +kernel
theorem dX8_hedgeItem_10 : decode cX8_hedgeItem 10 = .ok (.invokevirtual 75, 3) := by decide +kernel
theorem dX8_hedgeItem_13 : decode cX8_hedgeItem 13 = .ok (.istore_n 2, 1) := by decide +kernel
theorem dX8_hedgeItem_14 : decode cX8_hedgeItem 14 = .ok (.aload_n 0, 1) := by decide +kernel
theorem dX8_hedgeItem_15 : decode cX8_hedgeItem 15 = .ok (.iconst 0, 1) := by decide +kernel
theorem dX8_hedgeItem_16 : decode cX8_hedgeItem 16 = .ok (.bipush 40, 2) := by decide +kernel
theorem dX8_hedgeItem_18 : decode cX8_hedgeItem 18 = .ok (.invokevirtual 75, 3) := by decide +kernel
theorem dX8_hedgeItem_21 : decode cX8_hedgeItem 21 = .ok (.istore_n 3, 1) := by decide +kernel
theorem dX8_hedgeItem_22 : decode cX8_hedgeItem 22 = .ok (.aload_n 0, 1) := by decide +kernel
theorem dX8_hedgeItem_23 : decode cX8_hedgeItem 23 = .ok (.iconst 0, 1) := by decide +kernel
theorem dX8_hedgeItem_24 : decode cX8_hedgeItem 24 = .ok (.bipush 99, 2) := by decide +kernel
theorem dX8_hedgeItem_26 : decode cX8_hedgeItem 26 = .ok (.invokevirtual 75, 3) := by decide +kernel
theorem dX8_hedgeItem_29 : decode cX8_hedgeItem 29 = .ok (.istore 4, 2) := by decide +kernel
theorem dX8_hedgeItem_31 : decode cX8_hedgeItem 31 = .ok (.aload_n 0, 1) := by decide +kernel
theorem dX8_hedgeItem_32 : decode cX8_hedgeItem 32 = .ok (.getfield 67, 3) := by decide +kernel
theorem dX8_hedgeItem_35 : decode cX8_hedgeItem 35 = .ok (.ifCond .ne 37, 3) := by decide +kernel
theorem dX8_hedgeItem_38 : decode cX8_hedgeItem 38 = .ok (.aload_n 0, 1) := by decide +kernel
theorem dX8_hedgeItem_39 : decode cX8_hedgeItem 39 = .ok (.getfield 16, 3) := by decide +kernel
theorem dX8_hedgeItem_42 : decode cX8_hedgeItem 42 = .ok (.sipush 143, 3) := by decide +kernel
theorem dX8_hedgeItem_45 : decode cX8_hedgeItem 45 = .ok (.iload_n 1, 1) := by decide +kernel
theorem dX8_hedgeItem_46 : decode cX8_hedgeItem 46 = .ok (.iadd, 1) := by decide +kernel
theorem dX8_hedgeItem_47 : decode cX8_hedgeItem 47 = .ok (.iload_n 2, 1) := by decide +kernel
theorem dX8_hedgeItem_48 : decode cX8_hedgeItem 48 = .ok (.iastore, 1) := by decide +kernel
theorem dX8_hedgeItem_49 : decode cX8_hedgeItem 49 = .ok (.aload_n 0, 1) := by decide +kernel
theorem dX8_hedgeItem_50 : decode cX8_hedgeItem 50 = .ok (.getfield 16, 3) := by decide +kernel
theorem dX8_hedgeItem_53 : decode cX8_hedgeItem 53 = .ok (.sipush 145, 3) := by decide +kernel
theorem dX8_hedgeItem_56 : decode cX8_hedgeItem 56 = .ok (.iload_n 1, 1) := by decide +kernel
theorem dX8_hedgeItem_57 : decode cX8_hedgeItem 57 = .ok (.iadd, 1) := by decide +kernel
theorem dX8_hedgeItem_58 : decode cX8_hedgeItem 58 = .ok (.iload_n 3, 1) := by decide +kernel
theorem dX8_hedgeItem_59 : decode cX8_hedgeItem 59 = .ok (.iastore, 1) := by decide +kernel
theorem dX8_hedgeItem_60 : decode cX8_hedgeItem 60 = .ok (.aload_n 0, 1) := by decide +kernel
theorem dX8_hedgeItem_61 : decode cX8_hedgeItem 61 = .ok (.getfield 16, 3) := by decide +kernel
theorem dX8_hedgeItem_64 : decode cX8_hedgeItem 64 = .ok (.sipush 149, 3) := by decide +kernel
theorem dX8_hedgeItem_67 : decode cX8_hedgeItem 67 = .ok (.iload_n 1, 1) := by decide +kernel
theorem dX8_hedgeItem_68 : decode cX8_hedgeItem 68 = .ok (.iadd, 1) := by decide +kernel
theorem dX8_hedgeItem_69 : decode cX8_hedgeItem 69 = .ok (.iload 4, 2) := by decide +kernel
theorem dX8_hedgeItem_71 : decode cX8_hedgeItem 71 = .ok (.iastore, 1) := by decide +kernel
theorem dX8_hedgeItem_72 : decode cX8_hedgeItem 72 = .ok (.return_, 1) := by decide +kernel
theorem dX8_item_0 : decode cX8_item 0 = .ok (.iload_n 1, 1) := by decide +kernel
theorem dX8_item_1 : decode cX8_item 1 = .ok (.bipush 108, 2) := by decide +kernel
theorem dX8_item_3 : decode cX8_item 3 = .ok (.if_icmp .ne 17, 3) := by decide +kernel
theorem dX8_item_6 : decode cX8_item 6 = .ok (.aload_n 0, 1) := by decide +kernel
theorem dX8_item_7 : decode cX8_item 7 = .ok (.aload_n 0, 1) := by decide +kernel
theorem dX8_item_8 : decode cX8_item 8 = .ok (.iconst 1, 1) := by decide +kernel
theorem dX8_item_9 : decode cX8_item 9 = .ok (.bipush 40, 2) := by decide +kernel
theorem dX8_item_11 : decode cX8_item 11 = .ok (.invokevirtual 71, 3) := by decide +kernel
theorem dX8_item_14 : decode cX8_item 14 = .ok (.putfield 78, 3) := by decide +kernel
theorem dX8_item_17 : decode cX8_item 17 = .ok (.goto 148, 3) := by decide +kernel
theorem dX8_item_20 : decode cX8_item 20 = .ok (.iload_n 1, 1) := by decide +kernel
theorem dX8_item_21 : decode cX8_item 21 = .ok (.bipush 104, 2) := by decide +kernel
theorem dX8_item_23 : decode cX8_item 23 = .ok (.if_icmp .ne 10, 3) := by decide +kernel
theorem dX8_item_26 : decode cX8_item 26 = .ok (.aload_n 0, 1) := by decide +kernel
theorem dX8_item_27 : decode cX8_item 27 = .ok (.invokevirtual 81, 3) := by decide +kernel
theorem dX8_item_30 : decode cX8_item 30 = .ok (.goto 135, 3) := by decide +kernel
theorem dX8_item_33 : decode cX8_item 33 = .ok (.iload_n 1, 1) := by decide +kernel
theorem dX8_item_34 : decode cX8_item 34 = .ok (.bipush 115, 2) := by decide +kernel
theorem dX8_item_36 : decode cX8_item 36 = .ok (.if_icmp .ne 40, 3) := by decide +kernel
theorem dX8_item_39 : decode cX8_item 39 = .ok (.aload_n 0, 1) := by decide +kernel
theorem dX8_item_40 : decode cX8_item 40 = .ok (.iconst 0, 1) := by decide +kernel
theorem dX8_item_41 : decode cX8_item 41 = .ok (.bipush 11, 2) := by decide +kernel
theorem dX8_item_43 : decode cX8_item 43 = .ok (.invokevirtual 71, 3) := by decide +kernel
theorem dX8_item_46 : decode cX8_item 46 = .ok (.istore_n 2, 1) := by decide +kernel
theorem dX8_item_47 : decode cX8_item 47 = .ok (.aload_n 0, 1) := by decide +kernel
theorem dX8_item_48 : decode cX8_item 48 = .ok (.iconst 1, 1) := by decide +kernel
theorem dX8_item_49 : decode cX8_item 49 = .ok (.bipush 9, 2) := by decide +kernel
theorem dX8_item_51 : decode cX8_item 51 = .ok (.invokevirtual 75, 3) := by decide +kernel
theorem dX8_item_54 : decode cX8_item 54 = .ok (.istore_n 3, 1) := by decide +kernel
theorem dX8_item_55 : decode cX8_item 55 = .ok (.aload_n 0, 1) := by decide +kernel
theorem dX8_item_56 : decode cX8_item 56 = .ok (.getfield 13, 3) := by decide +kernel
theorem dX8_item_59 : decode cX8_item 59 = .ok (.iload_n 2, 1) := by decide +kernel
theorem dX8_item_60 : decode cX8_item 60 = .ok (.aload_n 0, 1) := by decide +kernel
theorem dX8_item_61 : decode cX8_item 61 = .ok (.getfield 67, 3) := by decide +kernel
theorem dX8_item_64 : decode cX8_item 64 = .ok (.ifCond .eq 7, 3) := by decide +kernel
theorem dX8_item_67 : decode cX8_item 67 = .ok (.iconst 5, 1) := by decide +kernel
theorem dX8_item_68 : decode cX8_item 68 = .ok (.goto 4, 3) := by decide +kernel
theorem dX8_item_71 : decode cX8_item 71 = .ok (.iload_n 3, 1) := by decide +kernel
theorem dX8_item_72 : decode cX8_item 72 = .ok (.iastore, 1) := by decide +kernel
theorem dX8_item_73 : decode cX8_item 73 = .ok (.goto 92, 3) := by decide +kernel
theorem dX8_item_76 : decode cX8_item 76 = .ok (.iload_n 1, 1) := by decide +kernel
theorem dX8_item_77 : decode cX8_item 77 = .ok (.bipush 119, 2) := by decide +kernel
theorem dX8_item_79 : decode cX8_item 79 = .ok (.if_icmp .ne 21, 3) := by decide +kernel
theorem dX8_item_82 : decode cX8_item 82 = .ok (.aload_n 0, 1) := by decide +kernel
theorem dX8_item_83 : decode cX8_item 83 = .ok (.getfield 16, 3) := by decide +kernel
theorem dX8_item_86 : decode cX8_item 86 = .ok (.sipush 153, 3) := by decide +kernel
theorem dX8_item_89 : decode cX8_item 89 = .ok (.aload_n 0, 1) := by decide +kernel
theorem dX8_item_90 : decode cX8_item 90 = .ok (.iconst 0, 1) := by decide +kernel
theorem dX8_item_91 : decode cX8_item 91 = .ok (.bipush 99, 2) := by decide +kernel
theorem dX8_item_93 : decode cX8_item 93 = .ok (.invokevirtual 71, 3) := by decide +kernel
theorem dX8_item_96 : decode cX8_item 96 = .ok (.iastore, 1) := by decide +kernel
theorem dX8_item_97 : decode cX8_item 97 = .ok (.goto 68, 3) := by decide +kernel
theorem dX8_item_100 : decode cX8_item 100 = .ok (.iload_n 1, 1) := by decide +kernel
theorem dX8_item_101 : decode cX8_item 101 = .ok (.bipush 100, 2) := by decide +kernel
theorem dX8_item_103 : decode cX8_item 103 = .ok (.if_icmp .ne 37, 3) := by decide +kernel
theorem dX8_item_106 : decode cX8_item 106 = .ok (.aload_n 0, 1) := by decide +kernel
theorem dX8_item_107 : decode cX8_item 107 = .ok (.iconst 0, 1) := by decide +kernel
theorem dX8_item_108 : decode cX8_item 108 = .ok (.bipush 11, 2) := by decide +kernel
theorem dX8_item_110 : decode cX8_item 110 = .ok (.invokevirtual 71, 3) := by decide +kernel
theorem dX8_item_113 : decode cX8_item 113 = .ok (.istore_n 2, 1) := by decide +kernel
theorem dX8_item_114 : decode cX8_item 114 = .ok (.aload_n 0, 1) := by decide +kernel
theorem dX8_item_115 : decode cX8_item 115 = .ok (.dup, 1) := by decide +kernel
theorem dX8_item_116 : decode cX8_item 116 = .ok (.getfield 84, 3) := by decide +kernel
theorem dX8_item_119 : decode cX8_item 119 = .ok (.aload_n 0, 1) := by decide +kernel
theorem dX8_item_120 : decode cX8_item 120 = .ok (.getfield 67, 3) := by decide +kernel
theorem dX8_item_123 : decode cX8_item 123 = .ok (.ifCond .eq 7, 3) := by decide +kernel
theorem dX8_item_126 : decode cX8_item 126 = .ok (.iconst 0, 1) := by decide +kernel
theorem dX8_item_127 : decode cX8_item 127 = .ok (.goto 6, 3) := by decide +kernel
theorem dX8_item_130 : decode cX8_item 130 = .ok (.iconst 1, 1) := by decide +kernel
theorem dX8_item_131 : decode cX8_item 131 = .ok (.iload_n 2, 1) := by decide +kernel
theorem dX8_item_132 : decode cX8_item 132 = .ok (.ishl, 1) := by decide +kernel
theorem dX8_item_133 : decode cX8_item 133 = .ok (.ior, 1) := by decide +kernel
theorem dX8_item_134 : decode cX8_item 134 = .ok (.putfield 84, 3) := by decide +kernel
theorem dX8_item_137 : decode cX8_item 137 = .ok (.goto 28, 3) := by decide +kernel
theorem dX8_item_140 : decode cX8_item 140 = .ok (.iload_n 1, 1) := by decide +kernel
theorem dX8_item_141 : decode cX8_item 141 = .ok (.bipush 114, 2) := by decide +kernel
theorem dX8_item_143 : decode cX8_item 143 = .ok (.if_icmp .ne 17, 3) := by decide +kernel
theorem dX8_item_146 : decode cX8_item 146 = .ok (.aload_n 0, 1) := by decide +kernel
theorem dX8_item_147 : decode cX8_item 147 = .ok (.aload_n 0, 1) := by decide +kernel
theorem dX8_item_148 : decode cX8_item 148 = .ok (.iconst 1, 1) := by decide +kernel
theorem dX8_item_149 : decode cX8_item 149 = .ok (.bipush 6, 2) := by decide +kernel
theorem dX8_item_151 : decode cX8_item 151 = .ok (.invokevirtual 71, 3) := by decide +kernel
theorem dX8_item_154 : decode cX8_item 154 = .ok (.putfield 87, 3) := by decide +kernel
theorem dX8_item_157 : decode cX8_item 157 = .ok (.goto 8, 3) := by decide +kernel
theorem dX8_item_160 : decode cX8_item 160 = .ok (.aload_n 0, 1) := by decide +kernel
theorem dX8_item_161 : decode cX8_item 161 = .ok (.iconst 1, 1) := by decide +kernel
theorem dX8_item_162 : decode cX8_item 162 = .ok (.putfield 67, 3) := by decide +kernel
theorem dX8_item_165 : decode cX8_item 165 = .ok (.return_, 1) := by decide +kernel
theorem dX8_reads_0 : decode cX8_reads 0 = .ok (.aload_n 0, 1) := by decide +kernel
theorem dX8_reads_1 : decode cX8_reads 1 = .ok (.bipush 12, 2) := by decide +kernel
theorem dX8_reads_3 : decode cX8_reads 3 = .ok (.putfield 78, 3) := by decide +kernel
theorem dX8_reads_6 : decode cX8_reads 6 = .ok (.aload_n 0, 1) := by decide +kernel
theorem dX8_reads_7 : decode cX8_reads 7 = .ok (.iconst 2, 1) := by decide +kernel
theorem dX8_reads_8 : decode cX8_reads 8 = .ok (.putfield 87, 3) := by decide +kernel
theorem dX8_reads_11 : decode cX8_reads 11 = .ok (.aload_n 0, 1) := by decide +kernel
theorem dX8_reads_12 : decode cX8_reads 12 = .ok (.iconst 0, 1) := by decide +kernel
theorem dX8_reads_13 : decode cX8_reads 13 = .ok (.putfield 84, 3) := by decide +kernel
theorem dX8_reads_16 : decode cX8_reads 16 = .ok (.iconst 0, 1) := by decide +kernel
theorem dX8_reads_17 : decode cX8_reads 17 = .ok (.istore_n 1, 1) := by decide +kernel
theorem dX8_reads_18 : decode cX8_reads 18 = .ok (.iload_n 1, 1) := by decide +kernel
theorem dX8_reads_19 : decode cX8_reads 19 = .ok (.bipush 12, 2) := by decide +kernel
theorem dX8_reads_21 : decode cX8_reads 21 = .ok (.if_icmp .ge 16, 3) := by decide +kernel
theorem dX8_reads_24 : decode cX8_reads 24 = .ok (.aload_n 0, 1) := by decide +kernel
theorem dX8_reads_25 : decode cX8_reads 25 = .ok (.getfield 13, 3) := by decide +kernel
theorem dX8_reads_28 : decode cX8_reads 28 = .ok (.iload_n 1, 1) := by decide +kernel
theorem dX8_reads_29 : decode cX8_reads 29 = .ok (.iconst 5, 1) := by decide +kernel
theorem dX8_reads_30 : decode cX8_reads 30 = .ok (.iastore, 1) := by decide +kernel
theorem dX8_reads_31 : decode cX8_reads 31 = .ok (.iinc 1 1, 3) := by decide +kernel
theorem dX8_reads_34 : decode cX8_reads 34 = .ok (.goto (-16), 3) := by decide +kernel
theorem dX8_reads_37 : decode cX8_reads 37 = .ok (.iconst 0, 1) := by decide +kernel
theorem dX8_reads_38 : decode cX8_reads 38 = .ok (.istore_n 1, 1) := by decide +kernel
theorem dX8_reads_39 : decode cX8_reads 39 = .ok (.iload_n 1, 1) := by decide +kernel
theorem dX8_reads_40 : decode cX8_reads 40 = .ok (.bipush 13, 2) := by decide +kernel
theorem dX8_reads_42 : decode cX8_reads 42 = .ok (.if_icmp .ge 73, 3) := by decide +kernel
theorem dX8_reads_45 : decode cX8_reads 45 = .ok (.aload_n 0, 1) := by decide +kernel
theorem dX8_reads_46 : decode cX8_reads 46 = .ok (.getfield 16, 3) := by decide +kernel
theorem dX8_reads_49 : decode cX8_reads 49 = .ok (.sipush 143, 3) := by decide +kernel
theorem dX8_reads_52 : decode cX8_reads 52 = .ok (.iload_n 1, 1) := by decide +kernel
theorem dX8_reads_53 : decode cX8_reads 53 = .ok (.iadd, 1) := by decide +kernel
theorem dX8_reads_54 : decode cX8_reads 54 = .ok (.iload_n 1, 1) := by decide +kernel
theorem dX8_reads_55 : decode cX8_reads 55 = .ok (.iconst 2, 1) := by decide +kernel
theorem dX8_reads_56 : decode cX8_reads 56 = .ok (.if_icmp .eq 8, 3) := by decide +kernel
theorem dX8_reads_59 : decode cX8_reads 59 = .ok (.iload_n 1, 1) := by decide +kernel
theorem dX8_reads_60 : decode cX8_reads 60 = .ok (.iconst 3, 1) := by decide +kernel
theorem dX8_reads_61 : decode cX8_reads 61 = .ok (.if_icmp .ne 7, 3) := by decide +kernel
theorem dX8_reads_64 : decode cX8_reads 64 = .ok (.iconst 1, 1) := by decide +kernel
theorem dX8_reads_65 : decode cX8_reads 65 = .ok (.goto 43, 3) := by decide +kernel
theorem dX8_reads_68 : decode cX8_reads 68 = .ok (.iload_n 1, 1) := by decide +kernel
theorem dX8_reads_69 : decode cX8_reads 69 = .ok (.bipush 6, 2) := by decide +kernel
theorem dX8_reads_71 : decode cX8_reads 71 = .ok (.if_icmp .eq 9, 3) := by decide +kernel
theorem dX8_reads_74 : decode cX8_reads 74 = .ok (.iload_n 1, 1) := by decide +kernel
theorem dX8_reads_75 : decode cX8_reads 75 = .ok (.bipush 7, 2) := by decide +kernel
theorem dX8_reads_77 : decode cX8_reads 77 = .ok (.if_icmp .ne 8, 3) := by decide +kernel
theorem dX8_reads_80 : decode cX8_reads 80 = .ok (.bipush 20, 2) := by decide +kernel
theorem dX8_reads_82 : decode cX8_reads 82 = .ok (.goto 26, 3) := by decide +kernel
theorem dX8_reads_85 : decode cX8_reads 85 = .ok (.iload_n 1, 1) := by decide +kernel
theorem dX8_reads_86 : decode cX8_reads 86 = .ok (.bipush 10, 2) := by decide +kernel
theorem dX8_reads_88 : decode cX8_reads 88 = .ok (.if_icmp .ne 8, 3) := by decide +kernel
theorem dX8_reads_91 : decode cX8_reads 91 = .ok (.bipush 10, 2) := by decide +kernel
theorem dX8_reads_93 : decode cX8_reads 93 = .ok (.goto 15, 3) := by decide +kernel
theorem dX8_reads_96 : decode cX8_reads 96 = .ok (.iload_n 1, 1) := by decide +kernel
theorem dX8_reads_97 : decode cX8_reads 97 = .ok (.bipush 12, 2) := by decide +kernel
theorem dX8_reads_99 : decode cX8_reads 99 = .ok (.if_icmp .ne 8, 3) := by decide +kernel
theorem dX8_reads_102 : decode cX8_reads 102 = .ok (.bipush (-4), 2) := by decide +kernel
theorem dX8_reads_104 : decode cX8_reads 104 = .ok (.goto 4, 3) := by decide +kernel
theorem dX8_reads_107 : decode cX8_reads 107 = .ok (.iconst 0, 1) := by decide +kernel
theorem dX8_reads_108 : decode cX8_reads 108 = .ok (.iastore, 1) := by decide +kernel
theorem dX8_reads_109 : decode cX8_reads 109 = .ok (.iinc 1 1, 3) := by decide +kernel
theorem dX8_reads_112 : decode cX8_reads 112 = .ok (.goto (-73), 3) := by decide +kernel
theorem dX8_reads_115 : decode cX8_reads 115 = .ok (.aload_n 0, 1) := by decide +kernel
theorem dX8_reads_116 : decode cX8_reads 116 = .ok (.iconst 0, 1) := by decide +kernel
theorem dX8_reads_117 : decode cX8_reads 117 = .ok (.putfield 56, 3) := by decide +kernel
theorem dX8_reads_120 : decode cX8_reads 120 = .ok (.aload_n 0, 1) := by decide +kernel
theorem dX8_reads_121 : decode cX8_reads 121 = .ok (.iconst 0, 1) := by decide +kernel
theorem dX8_reads_122 : decode cX8_reads 122 = .ok (.putfield 67, 3) := by decide +kernel
theorem dX8_reads_125 : decode cX8_reads 125 = .ok (.aload_n 0, 1) := by decide +kernel
theorem dX8_reads_126 : decode cX8_reads 126 = .ok (.getfield 56, 3) := by decide +kernel
theorem dX8_reads_129 : decode cX8_reads 129 = .ok (.aload_n 0, 1) := by decide +kernel
theorem dX8_reads_130 : decode cX8_reads 130 = .ok (.getfield 53, 3) := by decide +kernel
theorem dX8_reads_133 : decode cX8_reads 133 = .ok (.if_icmp .ge 76, 3) := by decide +kernel
theorem dX8_reads_136 : decode cX8_reads 136 = .ok (.aload_n 0, 1) := by decide +kernel
theorem dX8_reads_137 : decode cX8_reads 137 = .ok (.getfield 67, 3) := by decide +kernel
theorem dX8_reads_140 : decode cX8_reads 140 = .ok (.ifCond .ne 69, 3) := by decide +kernel
theorem dX8_reads_143 : decode cX8_reads 143 = .ok (.aload_n 0, 1) := by decide +kernel
theorem dX8_reads_144 : decode cX8_reads 144 = .ok (.aload_n 0, 1) := by decide +kernel
theorem dX8_reads_145 : decode cX8_reads 145 = .ok (.getfield 56, 3) := by decide +kernel
theorem dX8_reads_148 : decode cX8_reads 148 = .ok (.putfield 90, 3) := by decide +kernel
theorem dX8_reads_151 : decode cX8_reads 151 = .ok (.aload_n 0, 1) := by decide +kernel
theorem dX8_reads_152 : decode cX8_reads 152 = .ok (.invokevirtual 59, 3) := by decide +kernel
theorem dX8_reads_155 : decode cX8_reads 155 = .ok (.istore_n 1, 1) := by decide +kernel
theorem dX8_reads_156 : decode cX8_reads 156 = .ok (.aload_n 0, 1) := by decide +kernel
theorem dX8_reads_157 : decode cX8_reads 157 = .ok (.dup, 1) := by decide +kernel
theorem dX8_reads_158 : decode cX8_reads 158 = .ok (.getfield 56, 3) := by decide +kernel
theorem dX8_reads_161 : decode cX8_reads 161 = .ok (.iconst 1, 1) := by decide +kernel
theorem dX8_reads_162 : decode cX8_reads 162 = .ok (.iadd, 1) := by decide +kernel
theorem dX8_reads_163 : decode cX8_reads 163 = .ok (.putfield 56, 3) := by decide +kernel
theorem dX8_reads_166 : decode cX8_reads 166 = .ok (.aload_n 0, 1) := by decide +kernel
theorem dX8_reads_167 : decode cX8_reads 167 = .ok (.iload_n 1, 1) := by decide +kernel
theorem dX8_reads_168 : decode cX8_reads 168 = .ok (.invokevirtual 93, 3) := by decide +kernel
theorem dX8_reads_171 : decode cX8_reads 171 = .ok (.aload_n 0, 1) := by decide +kernel
theorem dX8_reads_172 : decode cX8_reads 172 = .ok (.aload_n 0, 1) := by decide +kernel
theorem dX8_reads_173 : decode cX8_reads 173 = .ok (.getfield 67, 3) := by decide +kernel
theorem dX8_reads_176 : decode cX8_reads 176 = .ok (.ifCond .ne 12, 3) := by decide +kernel
theorem dX8_reads_179 : decode cX8_reads 179 = .ok (.aload_n 0, 1) := by decide +kernel
theorem dX8_reads_180 : decode cX8_reads 180 = .ok (.invokevirtual 59, 3) := by decide +kernel
theorem dX8_reads_183 : decode cX8_reads 183 = .ok (.bipush 59, 2) := by decide +kernel
theorem dX8_reads_185 : decode cX8_reads 185 = .ok (.if_icmp .eq 7, 3) := by decide +kernel
theorem dX8_reads_188 : decode cX8_reads 188 = .ok (.iconst 1, 1) := by decide +kernel
theorem dX8_reads_189 : decode cX8_reads 189 = .ok (.goto 4, 3) := by decide +kernel
theorem dX8_reads_192 : decode cX8_reads 192 = .ok (.iconst 0, 1) := by decide +kernel
theorem dX8_reads_193 : decode cX8_reads 193 = .ok (.putfield 67, 3) := by decide +kernel
theorem dX8_reads_196 : decode cX8_reads 196 = .ok (.aload_n 0, 1) := by decide +kernel
theorem dX8_reads_197 : decode cX8_reads 197 = .ok (.dup, 1) := by decide +kernel
theorem dX8_reads_198 : decode cX8_reads 198 = .ok (.getfield 56, 3) := by decide +kernel
theorem dX8_reads_201 : decode cX8_reads 201 = .ok (.iconst 1, 1) := by decide +kernel
theorem dX8_reads_202 : decode cX8_reads 202 = .ok (.iadd, 1) := by decide +kernel
theorem dX8_reads_203 : decode cX8_reads 203 = .ok (.putfield 56, 3) := by decide +kernel
theorem dX8_reads_206 : decode cX8_reads 206 = .ok (.goto (-81), 3) := by decide +kernel
theorem dX8_reads_209 : decode cX8_reads 209 = .ok (.aload_n 0, 1) := by decide +kernel
theorem dX8_reads_210 : decode cX8_reads 210 = .ok (.getfield 67, 3) := by decide +kernel
theorem dX8_reads_213 : decode cX8_reads 213 = .ok (.ifCond .ne 7, 3) := by decide +kernel
theorem dX8_reads_216 : decode cX8_reads 216 = .ok (.iconst 1, 1) := by decide +kernel
theorem dX8_reads_217 : decode cX8_reads 217 = .ok (.goto 4, 3) := by decide +kernel
theorem dX8_reads_220 : decode cX8_reads 220 = .ok (.iconst 0, 1) := by decide +kernel
theorem dX8_reads_221 : decode cX8_reads 221 = .ok (.ireturn, 1) := by decide +kernel
theorem dX8_fault_0 : decode cX8_fault 0 = .ok (.aload_n 0, 1) := by decide +kernel
theorem dX8_fault_1 : decode cX8_fault 1 = .ok (.invokevirtual 97, 3) := by decide +kernel
theorem dX8_fault_4 : decode cX8_fault 4 = .ok (.ifCond .eq 8, 3) := by decide +kernel
theorem dX8_fault_7 : decode cX8_fault 7 = .ok (.bipush (-4), 2) := by decide +kernel
theorem dX8_fault_9 : decode cX8_fault 9 = .ok (.goto 7, 3) := by decide +kernel
theorem dX8_fault_12 : decode cX8_fault 12 = .ok (.aload_n 0, 1) := by decide +kernel
theorem dX8_fault_13 : decode cX8_fault 13 = .ok (.getfield 90, 3) := by decide +kernel
theorem dX8_fault_16 : decode cX8_fault 16 = .ok (.ireturn, 1) := by decide +kernel
theorem dX8_lay_0 : decode cX8_lay 0 = .ok (.aload_n 0, 1) := by decide +kernel
theorem dX8_lay_1 : decode cX8_lay 1 = .ok (.getfield 53, 3) := by decide +kernel
theorem dX8_lay_4 : decode cX8_lay 4 = .ok (.ifCond .eq 10, 3) := by decide +kernel
theorem dX8_lay_7 : decode cX8_lay 7 = .ok (.aload_n 0, 1) := by decide +kernel
theorem dX8_lay_8 : decode cX8_lay 8 = .ok (.invokevirtual 97, 3) := by decide +kernel
theorem dX8_lay_11 : decode cX8_lay 11 = .ok (.ifCond .ne 6, 3) := by decide +kernel
theorem dX8_lay_14 : decode cX8_lay 14 = .ok (.bipush (-2), 2) := by decide +kernel
theorem dX8_lay_16 : decode cX8_lay 16 = .ok (.ireturn, 1) := by decide +kernel
theorem dX8_lay_17 : decode cX8_lay 17 = .ok (.aload_n 0, 1) := by decide +kernel
theorem dX8_lay_18 : decode cX8_lay 18 = .ok (.aload_n 0, 1) := by decide +kernel
theorem dX8_lay_19 : decode cX8_lay 19 = .ok (.getfield 78, 3) := by decide +kernel
theorem dX8_lay_22 : decode cX8_lay 22 = .ok (.putfield 35, 3) := by decide +kernel
theorem dX8_lay_25 : decode cX8_lay 25 = .ok (.aload_n 0, 1) := by decide +kernel
theorem dX8_lay_26 : decode cX8_lay 26 = .ok (.aload_n 0, 1) := by decide +kernel
theorem dX8_lay_27 : decode cX8_lay 27 = .ok (.getfield 87, 3) := by decide +kernel
theorem dX8_lay_30 : decode cX8_lay 30 = .ok (.putfield 39, 3) := by decide +kernel
theorem dX8_lay_33 : decode cX8_lay 33 = .ok (.aload_n 0, 1) := by decide +kernel
theorem dX8_lay_34 : decode cX8_lay 34 = .ok (.aload_n 0, 1) := by decide +kernel
theorem dX8_lay_35 : decode cX8_lay 35 = .ok (.getfield 84, 3) := by decide +kernel
theorem dX8_lay_38 : decode cX8_lay 38 = .ok (.putfield 42, 3) := by decide +kernel
theorem dX8_lay_41 : decode cX8_lay 41 = .ok (.iconst 0, 1) := by decide +kernel
theorem dX8_lay_42 : decode cX8_lay 42 = .ok (.istore_n 1, 1) := by decide +kernel
theorem dX8_lay_43 : decode cX8_lay 43 = .ok (.iload_n 1, 1) := by decide +kernel
theorem dX8_lay_44 : decode cX8_lay 44 = .ok (.bipush 12, 2) := by decide +kernel
theorem dX8_lay_46 : decode cX8_lay 46 = .ok (.if_icmp .ge 21, 3) := by decide +kernel
theorem dX8_lay_49 : decode cX8_lay 49 = .ok (.aload_n 0, 1) := by decide +kernel
theorem dX8_lay_50 : decode cX8_lay 50 = .ok (.getfield 7, 3) := by decide +kernel
theorem dX8_lay_53 : decode cX8_lay 53 = .ok (.iload_n 1, 1) := by decide +kernel
theorem dX8_lay_54 : decode cX8_lay 54 = .ok (.aload_n 0, 1) := by decide +kernel
theorem dX8_lay_55 : decode cX8_lay 55 = .ok (.getfield 13, 3) := by decide +kernel
theorem dX8_lay_58 : decode cX8_lay 58 = .ok (.iload_n 1, 1) := by decide +kernel
theorem dX8_lay_59 : decode cX8_lay 59 = .ok (.iaload, 1) := by decide +kernel
theorem dX8_lay_60 : decode cX8_lay 60 = .ok (.iastore, 1) := by decide +kernel
theorem dX8_lay_61 : decode cX8_lay 61 = .ok (.iinc 1 1, 3) := by decide +kernel
theorem dX8_lay_64 : decode cX8_lay 64 = .ok (.goto (-21), 3) := by decide +kernel
theorem dX8_lay_67 : decode cX8_lay 67 = .ok (.aload_n 0, 1) := by decide +kernel
theorem dX8_lay_68 : decode cX8_lay 68 = .ok (.sipush 143, 3) := by decide +kernel
theorem dX8_lay_71 : decode cX8_lay 71 = .ok (.iconst 0, 1) := by decide +kernel
theorem dX8_lay_72 : decode cX8_lay 72 = .ok (.invokevirtual 101, 3) := by decide +kernel
theorem dX8_lay_75 : decode cX8_lay 75 = .ok (.aload_n 0, 1) := by decide +kernel
theorem dX8_lay_76 : decode cX8_lay 76 = .ok (.iconst 0, 1) := by decide +kernel
theorem dX8_lay_77 : decode cX8_lay 77 = .ok (.putfield 105, 3) := by decide +kernel
theorem dX8_lay_80 : decode cX8_lay 80 = .ok (.aload_n 0, 1) := by decide +kernel
theorem dX8_lay_81 : decode cX8_lay 81 = .ok (.iconst 0, 1) := by decide +kernel
theorem dX8_lay_82 : decode cX8_lay 82 = .ok (.putfield 108, 3) := by decide +kernel
theorem dX8_lay_85 : decode cX8_lay 85 = .ok (.aload_n 0, 1) := by decide +kernel
theorem dX8_lay_86 : decode cX8_lay 86 = .ok (.iconst 0, 1) := by decide +kernel
theorem dX8_lay_87 : decode cX8_lay 87 = .ok (.putfield 111, 3) := by decide +kernel
theorem dX8_lay_90 : decode cX8_lay 90 = .ok (.aload_n 0, 1) := by decide +kernel
theorem dX8_lay_91 : decode cX8_lay 91 = .ok (.getfield 35, 3) := by decide +kernel
theorem dX8_lay_94 : decode cX8_lay 94 = .ok (.ireturn, 1) := by decide +kernel
theorem dX8_isOne_0 : decode cX8_isOne 0 = .ok (.iload_n 0, 1) := by decide +kernel
theorem dX8_isOne_1 : decode cX8_isOne 1 = .ok (.i2l, 1) := by decide +kernel
theorem dX8_isOne_2 : decode cX8_isOne 2 = .ok (.lconst 0, 1) := by decide +kernel
theorem dX8_isOne_3 : decode cX8_isOne 3 = .ok (.lconst 1, 1) := by decide +kernel
theorem dX8_isOne_4 : decode cX8_isOne 4 = .ok (.invokestatic 49, 3) := by decide +kernel
theorem dX8_isOne_7 : decode cX8_isOne 7 = .ok (.ireturn, 1) := by decide +kernel
theorem dX8_sunIn_0 : decode cX8_sunIn 0 = .ok (.aload_n 0, 1) := by decide +kernel
theorem dX8_sunIn_1 : decode cX8_sunIn 1 = .ok (.getfield 7, 3) := by decide +kernel
theorem dX8_sunIn_4 : decode cX8_sunIn 4 = .ok (.aload_n 0, 1) := by decide +kernel
theorem dX8_sunIn_5 : decode cX8_sunIn 5 = .ok (.getfield 16, 3) := by decide +kernel
theorem dX8_sunIn_8 : decode cX8_sunIn 8 = .ok (.iload_n 1, 1) := by decide +kernel
theorem dX8_sunIn_9 : decode cX8_sunIn 9 = .ok (.bipush 11, 2) := by decide +kernel
theorem dX8_sunIn_11 : decode cX8_sunIn 11 = .ok (.iadd, 1) := by decide +kernel
theorem dX8_sunIn_12 : decode cX8_sunIn 12 = .ok (.iaload, 1) := by decide +kernel
theorem dX8_sunIn_13 : decode cX8_sunIn 13 = .ok (.bipush 12, 2) := by decide +kernel
theorem dX8_sunIn_15 : decode cX8_sunIn 15 = .ok (.irem, 1) := by decide +kernel
theorem dX8_sunIn_16 : decode cX8_sunIn 16 = .ok (.iaload, 1) := by decide +kernel
theorem dX8_sunIn_17 : decode cX8_sunIn 17 = .ok (.ireturn, 1) := by decide +kernel
theorem dX8_shadow_0 : decode cX8_shadow 0 = .ok (.aload_n 0, 1) := by decide +kernel
theorem dX8_shadow_1 : decode cX8_shadow 1 = .ok (.getfield 16, 3) := by decide +kernel
theorem dX8_shadow_4 : decode cX8_shadow 4 = .ok (.iload_n 1, 1) := by decide +kernel
theorem dX8_shadow_5 : decode cX8_shadow 5 = .ok (.iconst 2, 1) := by decide +kernel
theorem dX8_shadow_6 : decode cX8_shadow 6 = .ok (.iadd, 1) := by decide +kernel
theorem dX8_shadow_7 : decode cX8_shadow 7 = .ok (.iload_n 2, 1) := by decide +kernel
theorem dX8_shadow_8 : decode cX8_shadow 8 = .ok (.iadd, 1) := by decide +kernel
theorem dX8_shadow_9 : decode cX8_shadow 9 = .ok (.iaload, 1) := by decide +kernel
theorem dX8_shadow_10 : decode cX8_shadow 10 = .ok (.bipush 10, 2) := by decide +kernel
theorem dX8_shadow_12 : decode cX8_shadow 12 = .ok (.aload_n 0, 1) := by decide +kernel
theorem dX8_shadow_13 : decode cX8_shadow 13 = .ok (.iload_n 1, 1) := by decide +kernel
theorem dX8_shadow_14 : decode cX8_shadow 14 = .ok (.invokevirtual 114, 3) := by decide +kernel
theorem dX8_shadow_17 : decode cX8_shadow 17 = .ok (.isub, 1) := by decide +kernel
theorem dX8_shadow_18 : decode cX8_shadow 18 = .ok (.imul, 1) := by decide +kernel
theorem dX8_shadow_19 : decode cX8_shadow 19 = .ok (.iconst 3, 1) := by decide +kernel
theorem dX8_shadow_20 : decode cX8_shadow 20 = .ok (.idiv, 1) := by decide +kernel
theorem dX8_shadow_21 : decode cX8_shadow 21 = .ok (.ireturn, 1) := by decide +kernel
theorem dX8_isShaded_0 : decode cX8_isShaded 0 = .ok (.iconst 1, 1) := by decide +kernel
theorem dX8_isShaded_1 : decode cX8_isShaded 1 = .ok (.iload_n 2, 1) := by decide +kernel
theorem dX8_isShaded_2 : decode cX8_isShaded 2 = .ok (.isub, 1) := by decide +kernel
theorem dX8_isShaded_3 : decode cX8_isShaded 3 = .ok (.istore_n 3, 1) := by decide +kernel
theorem dX8_isShaded_4 : decode cX8_isShaded 4 = .ok (.aload_n 0, 1) := by decide +kernel
theorem dX8_isShaded_5 : decode cX8_isShaded 5 = .ok (.iload_n 1, 1) := by decide +kernel
theorem dX8_isShaded_6 : decode cX8_isShaded 6 = .ok (.iload_n 3, 1) := by decide +kernel
theorem dX8_isShaded_7 : decode cX8_isShaded 7 = .ok (.invokevirtual 118, 3) := by decide +kernel
theorem dX8_isShaded_10 : decode cX8_isShaded 10 = .ok (.aload_n 0, 1) := by decide +kernel
theorem dX8_isShaded_11 : decode cX8_isShaded 11 = .ok (.getfield 35, 3) := by decide +kernel
theorem dX8_isShaded_14 : decode cX8_isShaded 14 = .ok (.aload_n 0, 1) := by decide +kernel
theorem dX8_isShaded_15 : decode cX8_isShaded 15 = .ok (.getfield 16, 3) := by decide +kernel
theorem dX8_isShaded_18 : decode cX8_isShaded 18 = .ok (.iload_n 1, 1) := by decide +kernel
theorem dX8_isShaded_19 : decode cX8_isShaded 19 = .ok (.iconst 4, 1) := by decide +kernel
theorem dX8_isShaded_20 : decode cX8_isShaded 20 = .ok (.iadd, 1) := by decide +kernel
theorem dX8_isShaded_21 : decode cX8_isShaded 21 = .ok (.iload_n 3, 1) := by decide +kernel
theorem dX8_isShaded_22 : decode cX8_isShaded 22 = .ok (.iadd, 1) := by decide +kernel
theorem dX8_isShaded_23 : decode cX8_isShaded 23 = .ok (.iaload, 1) := by decide +kernel
theorem dX8_isShaded_24 : decode cX8_isShaded 24 = .ok (.isub, 1) := by decide +kernel
theorem dX8_isShaded_25 : decode cX8_isShaded 25 = .ok (.if_icmp .lt 30, 3) := by decide +kernel
theorem dX8_isShaded_28 : decode cX8_isShaded 28 = .ok (.aload_n 0, 1) := by decide +kernel
theorem dX8_isShaded_29 : decode cX8_isShaded 29 = .ok (.getfield 16, 3) := by decide +kernel
theorem dX8_isShaded_32 : decode cX8_isShaded 32 = .ok (.iload_n 1, 1) := by decide +kernel
theorem dX8_isShaded_33 : decode cX8_isShaded 33 = .ok (.iconst 2, 1) := by decide +kernel
theorem dX8_isShaded_34 : decode cX8_isShaded 34 = .ok (.iadd, 1) := by decide +kernel
theorem dX8_isShaded_35 : decode cX8_isShaded 35 = .ok (.iload_n 2, 1) := by decide +kernel
theorem dX8_isShaded_36 : decode cX8_isShaded 36 = .ok (.iadd, 1) := by decide +kernel
theorem dX8_isShaded_37 : decode cX8_isShaded 37 = .ok (.iaload, 1) := by decide +kernel
theorem dX8_isShaded_38 : decode cX8_isShaded 38 = .ok (.aload_n 0, 1) := by decide +kernel
theorem dX8_isShaded_39 : decode cX8_isShaded 39 = .ok (.getfield 16, 3) := by decide +kernel
theorem dX8_isShaded_42 : decode cX8_isShaded 42 = .ok (.iload_n 1, 1) := by decide +kernel
theorem dX8_isShaded_43 : decode cX8_isShaded 43 = .ok (.iconst 2, 1) := by decide +kernel
theorem dX8_isShaded_44 : decode cX8_isShaded 44 = .ok (.iadd, 1) := by decide +kernel
theorem dX8_isShaded_45 : decode cX8_isShaded 45 = .ok (.iload_n 3, 1) := by decide +kernel
theorem dX8_isShaded_46 : decode cX8_isShaded 46 = .ok (.iadd, 1) := by decide +kernel
theorem dX8_isShaded_47 : decode cX8_isShaded 47 = .ok (.iaload, 1) := by decide +kernel
theorem dX8_isShaded_48 : decode cX8_isShaded 48 = .ok (.if_icmp .ge 7, 3) := by decide +kernel
theorem dX8_isShaded_51 : decode cX8_isShaded 51 = .ok (.iconst 1, 1) := by decide +kernel
theorem dX8_isShaded_52 : decode cX8_isShaded 52 = .ok (.goto 4, 3) := by decide +kernel
theorem dX8_isShaded_55 : decode cX8_isShaded 55 = .ok (.iconst 0, 1) := by decide +kernel
theorem dX8_isShaded_56 : decode cX8_isShaded 56 = .ok (.ireturn, 1) := by decide +kernel
theorem dX8_hedge_0 : decode cX8_hedge 0 = .ok (.iload_n 1, 1) := by decide +kernel
theorem dX8_hedge_1 : decode cX8_hedge 1 = .ok (.invokestatic 121, 3) := by decide +kernel
theorem dX8_hedge_4 : decode cX8_hedge 4 = .ok (.ifCond .eq 15, 3) := by decide +kernel
theorem dX8_hedge_7 : decode cX8_hedge 7 = .ok (.iload_n 2, 1) := by decide +kernel
theorem dX8_hedge_8 : decode cX8_hedge 8 = .ok (.i2l, 1) := by decide +kernel
theorem dX8_hedge_9 : decode cX8_hedge 9 = .ok (.lconst 0, 1) := by decide +kernel
theorem dX8_hedge_10 : decode cX8_hedge 10 = .ok (.ldc2_w 125, 3) := by decide +kernel
theorem dX8_hedge_13 : decode cX8_hedge 13 = .ok (.invokestatic 49, 3) := by decide +kernel
theorem dX8_hedge_16 : decode cX8_hedge 16 = .ok (.ifCond .ne 5, 3) := by decide +kernel
theorem dX8_hedge_19 : decode cX8_hedge 19 = .ok (.iconst (-1), 1) := by decide +kernel
theorem dX8_hedge_20 : decode cX8_hedge 20 = .ok (.ireturn, 1) := by decide +kernel
theorem dX8_hedge_21 : decode cX8_hedge 21 = .ok (.iload_n 2, 1) := by decide +kernel
theorem dX8_hedge_22 : decode cX8_hedge 22 = .ok (.ifCond .ne 12, 3) := by decide +kernel
theorem dX8_hedge_25 : decode cX8_hedge 25 = .ok (.aload_n 0, 1) := by decide +kernel
theorem dX8_hedge_26 : decode cX8_hedge 26 = .ok (.getfield 16, 3) := by decide +kernel
theorem dX8_hedge_29 : decode cX8_hedge 29 = .ok (.iload_n 1, 1) := by decide +kernel
theorem dX8_hedge_30 : decode cX8_hedge 30 = .ok (.iaload, 1) := by decide +kernel
theorem dX8_hedge_31 : decode cX8_hedge 31 = .ok (.goto 122, 3) := by decide +kernel
theorem dX8_hedge_34 : decode cX8_hedge 34 = .ok (.iload_n 2, 1) := by decide +kernel
theorem dX8_hedge_35 : decode cX8_hedge 35 = .ok (.iconst 1, 1) := by decide +kernel
theorem dX8_hedge_36 : decode cX8_hedge 36 = .ok (.if_icmp .ne 14, 3) := by decide +kernel
theorem dX8_hedge_39 : decode cX8_hedge 39 = .ok (.aload_n 0, 1) := by decide +kernel
theorem dX8_hedge_40 : decode cX8_hedge 40 = .ok (.getfield 16, 3) := by decide +kernel
theorem dX8_hedge_43 : decode cX8_hedge 43 = .ok (.iconst 2, 1) := by decide +kernel
theorem dX8_hedge_44 : decode cX8_hedge 44 = .ok (.iload_n 1, 1) := by decide +kernel
theorem dX8_hedge_45 : decode cX8_hedge 45 = .ok (.iadd, 1) := by decide +kernel
theorem dX8_hedge_46 : decode cX8_hedge 46 = .ok (.iaload, 1) := by decide +kernel
theorem dX8_hedge_47 : decode cX8_hedge 47 = .ok (.goto 106, 3) := by decide +kernel
theorem dX8_hedge_50 : decode cX8_hedge 50 = .ok (.iload_n 2, 1) := by decide +kernel
theorem dX8_hedge_51 : decode cX8_hedge 51 = .ok (.iconst 2, 1) := by decide +kernel
theorem dX8_hedge_52 : decode cX8_hedge 52 = .ok (.if_icmp .ne 14, 3) := by decide +kernel
theorem dX8_hedge_55 : decode cX8_hedge 55 = .ok (.aload_n 0, 1) := by decide +kernel
theorem dX8_hedge_56 : decode cX8_hedge 56 = .ok (.getfield 16, 3) := by decide +kernel
theorem dX8_hedge_59 : decode cX8_hedge 59 = .ok (.iconst 4, 1) := by decide +kernel
theorem dX8_hedge_60 : decode cX8_hedge 60 = .ok (.iload_n 1, 1) := by decide +kernel
theorem dX8_hedge_61 : decode cX8_hedge 61 = .ok (.iadd, 1) := by decide +kernel
theorem dX8_hedge_62 : decode cX8_hedge 62 = .ok (.iaload, 1) := by decide +kernel
theorem dX8_hedge_63 : decode cX8_hedge 63 = .ok (.goto 90, 3) := by decide +kernel
theorem dX8_hedge_66 : decode cX8_hedge 66 = .ok (.iload_n 2, 1) := by decide +kernel
theorem dX8_hedge_67 : decode cX8_hedge 67 = .ok (.iconst 3, 1) := by decide +kernel
theorem dX8_hedge_68 : decode cX8_hedge 68 = .ok (.if_icmp .ne 15, 3) := by decide +kernel
theorem dX8_hedge_71 : decode cX8_hedge 71 = .ok (.aload_n 0, 1) := by decide +kernel
theorem dX8_hedge_72 : decode cX8_hedge 72 = .ok (.getfield 16, 3) := by decide +kernel
theorem dX8_hedge_75 : decode cX8_hedge 75 = .ok (.bipush 6, 2) := by decide +kernel
theorem dX8_hedge_77 : decode cX8_hedge 77 = .ok (.iload_n 1, 1) := by decide +kernel
theorem dX8_hedge_78 : decode cX8_hedge 78 = .ok (.iadd, 1) := by decide +kernel
theorem dX8_hedge_79 : decode cX8_hedge 79 = .ok (.iaload, 1) := by decide +kernel
theorem dX8_hedge_80 : decode cX8_hedge 80 = .ok (.goto 73, 3) := by decide +kernel
theorem dX8_hedge_83 : decode cX8_hedge 83 = .ok (.iload_n 2, 1) := by decide +kernel
theorem dX8_hedge_84 : decode cX8_hedge 84 = .ok (.iconst 4, 1) := by decide +kernel
theorem dX8_hedge_85 : decode cX8_hedge 85 = .ok (.if_icmp .ne 12, 3) := by decide +kernel
theorem dX8_hedge_88 : decode cX8_hedge 88 = .ok (.aload_n 0, 1) := by decide +kernel
theorem dX8_hedge_89 : decode cX8_hedge 89 = .ok (.iconst 0, 1) := by decide +kernel
theorem dX8_hedge_90 : decode cX8_hedge 90 = .ok (.iload_n 1, 1) := by decide +kernel
theorem dX8_hedge_91 : decode cX8_hedge 91 = .ok (.invokevirtual 118, 3) := by decide +kernel
theorem dX8_hedge_94 : decode cX8_hedge 94 = .ok (.goto 59, 3) := by decide +kernel
theorem dX8_hedge_97 : decode cX8_hedge 97 = .ok (.iload_n 2, 1) := by decide +kernel
theorem dX8_hedge_98 : decode cX8_hedge 98 = .ok (.iconst 5, 1) := by decide +kernel
theorem dX8_hedge_99 : decode cX8_hedge 99 = .ok (.if_icmp .ne 20, 3) := by decide +kernel
theorem dX8_hedge_102 : decode cX8_hedge 102 = .ok (.aload_n 0, 1) := by decide +kernel
theorem dX8_hedge_103 : decode cX8_hedge 103 = .ok (.iconst 0, 1) := by decide +kernel
theorem dX8_hedge_104 : decode cX8_hedge 104 = .ok (.iload_n 1, 1) := by decide +kernel
theorem dX8_hedge_105 : decode cX8_hedge 105 = .ok (.invokevirtual 127, 3) := by decide +kernel
theorem dX8_hedge_108 : decode cX8_hedge 108 = .ok (.ifCond .eq 7, 3) := by decide +kernel
theorem dX8_hedge_111 : decode cX8_hedge 111 = .ok (.iconst 1, 1) := by decide +kernel
theorem dX8_hedge_112 : decode cX8_hedge 112 = .ok (.goto 41, 3) := by decide +kernel
theorem dX8_hedge_115 : decode cX8_hedge 115 = .ok (.iconst 0, 1) := by decide +kernel
theorem dX8_hedge_116 : decode cX8_hedge 116 = .ok (.goto 37, 3) := by decide +kernel
theorem dX8_hedge_119 : decode cX8_hedge 119 = .ok (.iload_n 2, 1) := by decide +kernel
theorem dX8_hedge_120 : decode cX8_hedge 120 = .ok (.bipush 6, 2) := by decide +kernel
theorem dX8_hedge_122 : decode cX8_hedge 122 = .ok (.if_icmp .ne 15, 3) := by decide +kernel
theorem dX8_hedge_125 : decode cX8_hedge 125 = .ok (.aload_n 0, 1) := by decide +kernel
theorem dX8_hedge_126 : decode cX8_hedge 126 = .ok (.getfield 16, 3) := by decide +kernel
theorem dX8_hedge_129 : decode cX8_hedge 129 = .ok (.bipush 8, 2) := by decide +kernel
theorem dX8_hedge_131 : decode cX8_hedge 131 = .ok (.iload_n 1, 1) := by decide +kernel
theorem dX8_hedge_132 : decode cX8_hedge 132 = .ok (.iadd, 1) := by decide +kernel
theorem dX8_hedge_133 : decode cX8_hedge 133 = .ok (.iaload, 1) := by decide +kernel
theorem dX8_hedge_134 : decode cX8_hedge 134 = .ok (.goto 19, 3) := by decide +kernel
theorem dX8_hedge_137 : decode cX8_hedge 137 = .ok (.aload_n 0, 1) := by decide +kernel
theorem dX8_hedge_138 : decode cX8_hedge 138 = .ok (.getfield 16, 3) := by decide +kernel
theorem dX8_hedge_141 : decode cX8_hedge 141 = .ok (.bipush 12, 2) := by decide +kernel
theorem dX8_hedge_143 : decode cX8_hedge 143 = .ok (.iaload, 1) := by decide +kernel
theorem dX8_hedge_144 : decode cX8_hedge 144 = .ok (.iload_n 1, 1) := by decide +kernel
theorem dX8_hedge_145 : decode cX8_hedge 145 = .ok (.if_icmp .ne 7, 3) := by decide +kernel
theorem dX8_hedge_148 : decode cX8_hedge 148 = .ok (.iconst 1, 1) := by decide +kernel
theorem dX8_hedge_149 : decode cX8_hedge 149 = .ok (.goto 4, 3) := by decide +kernel
theorem dX8_hedge_152 : decode cX8_hedge 152 = .ok (.iconst 0, 1) := by decide +kernel
theorem dX8_hedge_153 : decode cX8_hedge 153 = .ok (.ireturn, 1) := by decide +kernel
theorem dX8_month_0 : decode cX8_month 0 = .ok (.iload_n 1, 1) := by decide +kernel
theorem dX8_month_1 : decode cX8_month 1 = .ok (.i2l, 1) := by decide +kernel
theorem dX8_month_2 : decode cX8_month 2 = .ok (.lconst 0, 1) := by decide +kernel
theorem dX8_month_3 : decode cX8_month 3 = .ok (.ldc2_w 131, 3) := by decide +kernel
theorem dX8_month_6 : decode cX8_month 6 = .ok (.invokestatic 49, 3) := by decide +kernel
theorem dX8_month_9 : decode cX8_month 9 = .ok (.ifCond .eq 13, 3) := by decide +kernel
theorem dX8_month_12 : decode cX8_month 12 = .ok (.iload_n 2, 1) := by decide +kernel
theorem dX8_month_13 : decode cX8_month 13 = .ok (.i2l, 1) := by decide +kernel
theorem dX8_month_14 : decode cX8_month 14 = .ok (.lconst 0, 1) := by decide +kernel
theorem dX8_month_15 : decode cX8_month 15 = .ok (.lconst 1, 1) := by decide +kernel
theorem dX8_month_16 : decode cX8_month 16 = .ok (.invokestatic 49, 3) := by decide +kernel
theorem dX8_month_19 : decode cX8_month 19 = .ok (.ifCond .ne 5, 3) := by decide +kernel
theorem dX8_month_22 : decode cX8_month 22 = .ok (.iconst (-1), 1) := by decide +kernel
theorem dX8_month_23 : decode cX8_month 23 = .ok (.ireturn, 1) := by decide +kernel
theorem dX8_month_24 : decode cX8_month 24 = .ok (.iload_n 2, 1) := by decide +kernel
theorem dX8_month_25 : decode cX8_month 25 = .ok (.ifCond .ne 15, 3) := by decide +kernel
theorem dX8_month_28 : decode cX8_month 28 = .ok (.aload_n 0, 1) := by decide +kernel
theorem dX8_month_29 : decode cX8_month 29 = .ok (.getfield 7, 3) := by decide +kernel
theorem dX8_month_32 : decode cX8_month 32 = .ok (.iload_n 1, 1) := by decide +kernel
theorem dX8_month_33 : decode cX8_month 33 = .ok (.bipush 12, 2) := by decide +kernel
theorem dX8_month_35 : decode cX8_month 35 = .ok (.irem, 1) := by decide +kernel
theorem dX8_month_36 : decode cX8_month 36 = .ok (.iaload, 1) := by decide +kernel
theorem dX8_month_37 : decode cX8_month 37 = .ok (.goto 14, 3) := by decide +kernel
theorem dX8_month_40 : decode cX8_month 40 = .ok (.aload_n 0, 1) := by decide +kernel
theorem dX8_month_41 : decode cX8_month 41 = .ok (.getfield 42, 3) := by decide +kernel
theorem dX8_month_44 : decode cX8_month 44 = .ok (.iload_n 1, 1) := by decide +kernel
theorem dX8_month_45 : decode cX8_month 45 = .ok (.bipush 12, 2) := by decide +kernel
theorem dX8_month_47 : decode cX8_month 47 = .ok (.irem, 1) := by decide +kernel
theorem dX8_month_48 : decode cX8_month 48 = .ok (.ishr, 1) := by decide +kernel
theorem dX8_month_49 : decode cX8_month 49 = .ok (.iconst 1, 1) := by decide +kernel
theorem dX8_month_50 : decode cX8_month 50 = .ok (.iand, 1) := by decide +kernel
theorem dX8_month_51 : decode cX8_month 51 = .ok (.ireturn, 1) := by decide +kernel
theorem dX8_bound_0 : decode cX8_bound 0 = .ok (.iload_n 0, 1) := by decide +kernel
theorem dX8_bound_1 : decode cX8_bound 1 = .ok (.ifCond .ne 8, 3) := by decide +kernel
theorem dX8_bound_4 : decode cX8_bound 4 = .ok (.bipush 24, 2) := by decide +kernel
theorem dX8_bound_6 : decode cX8_bound 6 = .ok (.goto 35, 3) := by decide +kernel
theorem dX8_bound_9 : decode cX8_bound 9 = .ok (.iload_n 0, 1) := by decide +kernel
theorem dX8_bound_10 : decode cX8_bound 10 = .ok (.iconst 1, 1) := by decide +kernel
theorem dX8_bound_11 : decode cX8_bound 11 = .ok (.if_icmp .ne 8, 3) := by decide +kernel
theorem dX8_bound_14 : decode cX8_bound 14 = .ok (.bipush 40, 2) := by decide +kernel
theorem dX8_bound_16 : decode cX8_bound 16 = .ok (.goto 25, 3) := by decide +kernel
theorem dX8_bound_19 : decode cX8_bound 19 = .ok (.iload_n 0, 1) := by decide +kernel
theorem dX8_bound_20 : decode cX8_bound 20 = .ok (.iconst 2, 1) := by decide +kernel
theorem dX8_bound_21 : decode cX8_bound 21 = .ok (.if_icmp .ne 8, 3) := by decide +kernel
theorem dX8_bound_24 : decode cX8_bound 24 = .ok (.bipush 30, 2) := by decide +kernel
theorem dX8_bound_26 : decode cX8_bound 26 = .ok (.goto 15, 3) := by decide +kernel
theorem dX8_bound_29 : decode cX8_bound 29 = .ok (.iload_n 0, 1) := by decide +kernel
theorem dX8_bound_30 : decode cX8_bound 30 = .ok (.iconst 3, 1) := by decide +kernel
theorem dX8_bound_31 : decode cX8_bound 31 = .ok (.if_icmp .ne 8, 3) := by decide +kernel
theorem dX8_bound_34 : decode cX8_bound 34 = .ok (.bipush 10, 2) := by decide +kernel
theorem dX8_bound_36 : decode cX8_bound 36 = .ok (.goto 5, 3) := by decide +kernel
theorem dX8_bound_39 : decode cX8_bound 39 = .ok (.bipush 36, 2) := by decide +kernel
theorem dX8_bound_41 : decode cX8_bound 41 = .ok (.ireturn, 1) := by decide +kernel
theorem dX8_grows_0 : decode cX8_grows 0 = .ok (.iload_n 1, 1) := by decide +kernel
theorem dX8_grows_1 : decode cX8_grows 1 = .ok (.iconst 2, 1) := by decide +kernel
theorem dX8_grows_2 : decode cX8_grows 2 = .ok (.if_icmp .lt 9, 3) := by decide +kernel
theorem dX8_grows_5 : decode cX8_grows 5 = .ok (.iload_n 1, 1) := by decide +kernel
theorem dX8_grows_6 : decode cX8_grows 6 = .ok (.bipush 11, 2) := by decide +kernel
theorem dX8_grows_8 : decode cX8_grows 8 = .ok (.if_icmp .ne 7, 3) := by decide +kernel
theorem dX8_grows_11 : decode cX8_grows 11 = .ok (.iconst 1, 1) := by decide +kernel
theorem dX8_grows_12 : decode cX8_grows 12 = .ok (.goto 4, 3) := by decide +kernel
theorem dX8_grows_15 : decode cX8_grows 15 = .ok (.iconst 0, 1) := by decide +kernel
theorem dX8_grows_16 : decode cX8_grows 16 = .ok (.istore_n 2, 1) := by decide +kernel
theorem dX8_grows_17 : decode cX8_grows 17 = .ok (.iload_n 0, 1) := by decide +kernel
theorem dX8_grows_18 : decode cX8_grows 18 = .ok (.ifCond .ne 7, 3) := by decide +kernel
theorem dX8_grows_21 : decode cX8_grows 21 = .ok (.iconst 3, 1) := by decide +kernel
theorem dX8_grows_22 : decode cX8_grows 22 = .ok (.goto 32, 3) := by decide +kernel
theorem dX8_grows_25 : decode cX8_grows 25 = .ok (.iload_n 0, 1) := by decide +kernel
theorem dX8_grows_26 : decode cX8_grows 26 = .ok (.iconst 1, 1) := by decide +kernel
theorem dX8_grows_27 : decode cX8_grows 27 = .ok (.if_icmp .eq 8, 3) := by decide +kernel
theorem dX8_grows_30 : decode cX8_grows 30 = .ok (.iload_n 0, 1) := by decide +kernel
theorem dX8_grows_31 : decode cX8_grows 31 = .ok (.iconst 3, 1) := by decide +kernel
theorem dX8_grows_32 : decode cX8_grows 32 = .ok (.if_icmp .ne 7, 3) := by decide +kernel
theorem dX8_grows_35 : decode cX8_grows 35 = .ok (.iconst 1, 1) := by decide +kernel
theorem dX8_grows_36 : decode cX8_grows 36 = .ok (.goto 18, 3) := by decide +kernel
theorem dX8_grows_39 : decode cX8_grows 39 = .ok (.iload_n 0, 1) := by decide +kernel
theorem dX8_grows_40 : decode cX8_grows 40 = .ok (.iconst 2, 1) := by decide +kernel
