theorem dX7_init_0 : decode cX7_init 0 = .ok (.aload_n 0, 1) := by decide +kernel
theorem dX7_init_1 : decode cX7_init 1 = .ok (.invokespecial 1, 3) := by decide +kernel
theorem dX7_init_4 : decode cX7_init 4 = .ok (.aload_n 0, 1) := by decide +kernel
theorem dX7_init_5 : decode cX7_init 5 = .ok (.new 7, 3) := by decide +kernel
theorem dX7_init_8 : decode cX7_init 8 = .ok (.dup, 1) := by decide +kernel
theorem dX7_init_9 : decode cX7_init 9 = .ok (.invokespecial 9, 3) := by decide +kernel
theorem dX7_init_12 : decode cX7_init 12 = .ok (.putfield 10, 3) := by decide +kernel
theorem dX7_init_15 : decode cX7_init 15 = .ok (.aload_n 0, 1) := by decide +kernel
theorem dX7_init_16 : decode cX7_init 16 = .ok (.new 16, 3) := by decide +kernel
theorem dX7_init_19 : decode cX7_init 19 = .ok (.dup, 1) := by decide +kernel
theorem dX7_init_20 : decode cX7_init 20 = .ok (.invokespecial 18, 3) := by decide +kernel
theorem dX7_init_23 : decode cX7_init 23 = .ok (.putfield 19, 3) := by decide +kernel
theorem dX7_init_26 : decode cX7_init 26 = .ok (.aload_n 0, 1) := by decide +kernel
theorem dX7_init_27 : decode cX7_init 27 = .ok (.new 23, 3) := by decide +kernel
theorem dX7_init_30 : decode cX7_init 30 = .ok (.dup, 1) := by decide +kernel
theorem dX7_init_31 : decode cX7_init 31 = .ok (.invokespecial 25, 3) := by decide +kernel
theorem dX7_init_34 : decode cX7_init 34 = .ok (.putfield 26, 3) := by decide +kernel
theorem dX7_init_37 : decode cX7_init 37 = .ok (.aload_n 0, 1) := by decide +kernel
theorem dX7_init_38 : decode cX7_init 38 = .ok (.new 23, 3) := by decide +kernel
theorem dX7_init_41 : decode cX7_init 41 = .ok (.dup, 1) := by decide +kernel
theorem dX7_init_42 : decode cX7_init 42 = .ok (.invokespecial 25, 3) := by decide +kernel
theorem dX7_init_45 : decode cX7_init 45 = .ok (.putfield 30, 3) := by decide +kernel
theorem dX7_init_48 : decode cX7_init 48 = .ok (.aload_n 0, 1) := by decide +kernel
theorem dX7_init_49 : decode cX7_init 49 = .ok (.new 33, 3) := by decide +kernel
theorem dX7_init_52 : decode cX7_init 52 = .ok (.dup, 1) := by decide +kernel
theorem dX7_init_53 : decode cX7_init 53 = .ok (.bipush 8, 2) := by decide +kernel
theorem dX7_init_55 : decode cX7_init 55 = .ok (.invokespecial 35, 3) := by decide +kernel
theorem dX7_init_58 : decode cX7_init 58 = .ok (.putfield 38, 3) := by decide +kernel
theorem dX7_init_61 : decode cX7_init 61 = .ok (.aload_n 0, 1) := by decide +kernel
theorem dX7_init_62 : decode cX7_init 62 = .ok (.new 33, 3) := by decide +kernel
theorem dX7_init_65 : decode cX7_init 65 = .ok (.dup, 1) := by decide +kernel
theorem dX7_init_66 : decode cX7_init 66 = .ok (.iconst 2, 1) := by decide +kernel
theorem dX7_init_67 : decode cX7_init 67 = .ok (.invokespecial 35, 3) := by decide +kernel
theorem dX7_init_70 : decode cX7_init 70 = .ok (.putfield 42, 3) := by decide +kernel
theorem dX7_init_73 : decode cX7_init 73 = .ok (.aload_n 0, 1) := by decide +kernel
theorem dX7_init_74 : decode cX7_init 74 = .ok (.new 45, 3) := by decide +kernel
theorem dX7_init_77 : decode cX7_init 77 = .ok (.dup, 1) := by decide +kernel
theorem dX7_init_78 : decode cX7_init 78 = .ok (.invokespecial 47, 3) := by decide +kernel
theorem dX7_init_81 : decode cX7_init 81 = .ok (.putfield 48, 3) := by decide +kernel
theorem dX7_init_84 : decode cX7_init 84 = .ok (.aload_n 0, 1) := by decide +kernel
theorem dX7_init_85 : decode cX7_init 85 = .ok (.new 52, 3) := by decide +kernel
theorem dX7_init_88 : decode cX7_init 88 = .ok (.dup, 1) := by decide +kernel
theorem dX7_init_89 : decode cX7_init 89 = .ok (.aload_n 0, 1) := by decide +kernel
theorem dX7_init_90 : decode cX7_init 90 = .ok (.getfield 19, 3) := by decide +kernel
theorem dX7_init_93 : decode cX7_init 93 = .ok (.invokespecial 54, 3) := by decide +kernel
theorem dX7_init_96 : decode cX7_init 96 = .ok (.putfield 57, 3) := by decide +kernel
theorem dX7_init_99 : decode cX7_init 99 = .ok (.iconst 0, 1) := by decide +kernel
theorem dX7_init_100 : decode cX7_init 100 = .ok (.istore_n 1, 1) := by decide +kernel
theorem dX7_init_101 : decode cX7_init 101 = .ok (.iload_n 1, 1) := by decide +kernel
theorem dX7_init_102 : decode cX7_init 102 = .ok (.ldc 61, 2) := by decide +kernel
theorem dX7_init_104 : decode cX7_init 104 = .ok (.invokevirtual 63, 3) := by decide +kernel
theorem dX7_init_107 : decode cX7_init 107 = .ok (.if_icmp .ge 22, 3) := by decide +kernel
theorem dX7_init_110 : decode cX7_init 110 = .ok (.aload_n 0, 1) := by decide +kernel
theorem dX7_init_111 : decode cX7_init 111 = .ok (.getfield 10, 3) := by decide +kernel
theorem dX7_init_114 : decode cX7_init 114 = .ok (.ldc 61, 2) := by decide +kernel
theorem dX7_init_116 : decode cX7_init 116 = .ok (.iload_n 1, 1) := by decide +kernel
theorem dX7_init_117 : decode cX7_init 117 = .ok (.invokevirtual 69, 3) := by decide +kernel
theorem dX7_init_120 : decode cX7_init 120 = .ok (.invokevirtual 73, 3) := by decide +kernel
theorem dX7_init_123 : decode cX7_init 123 = .ok (.iinc 1 1, 3) := by decide +kernel
theorem dX7_init_126 : decode cX7_init 126 = .ok (.goto (-25), 3) := by decide +kernel
theorem dX7_init_129 : decode cX7_init 129 = .ok (.aload_n 0, 1) := by decide +kernel
theorem dX7_init_130 : decode cX7_init 130 = .ok (.invokevirtual 76, 3) := by decide +kernel
theorem dX7_init_133 : decode cX7_init 133 = .ok (.aload_n 0, 1) := by decide +kernel
theorem dX7_init_134 : decode cX7_init 134 = .ok (.getfield 10, 3) := by decide +kernel
theorem dX7_init_137 : decode cX7_init 137 = .ok (.iconst 0, 1) := by decide +kernel
theorem dX7_init_138 : decode cX7_init 138 = .ok (.putfield 79, 3) := by decide +kernel
theorem dX7_init_141 : decode cX7_init 141 = .ok (.return_, 1) := by decide +kernel
theorem dX7_write_0 : decode cX7_write 0 = .ok (.iload_n 1, 1) := by decide +kernel
theorem dX7_write_1 : decode cX7_write 1 = .ok (.bipush 32, 2) := by decide +kernel
theorem dX7_write_3 : decode cX7_write 3 = .ok (.bipush 126, 2) := by decide +kernel
theorem dX7_write_5 : decode cX7_write 5 = .ok (.invokestatic 83, 3) := by decide +kernel
theorem dX7_write_8 : decode cX7_write 8 = .ok (.ifCond .ne 5, 3) := by decide +kernel
theorem dX7_write_11 : decode cX7_write 11 = .ok (.iconst (-1), 1) := by decide +kernel
theorem dX7_write_12 : decode cX7_write 12 = .ok (.ireturn, 1) := by decide +kernel
theorem dX7_write_13 : decode cX7_write 13 = .ok (.aload_n 0, 1) := by decide +kernel
theorem dX7_write_14 : decode cX7_write 14 = .ok (.getfield 10, 3) := by decide +kernel
theorem dX7_write_17 : decode cX7_write 17 = .ok (.getfield 79, 3) := by decide +kernel
theorem dX7_write_20 : decode cX7_write 20 = .ok (.sipush 200, 3) := by decide +kernel
theorem dX7_write_23 : decode cX7_write 23 = .ok (.if_icmp .lt 6, 3) := by decide +kernel
theorem dX7_write_26 : decode cX7_write 26 = .ok (.bipush (-3), 2) := by decide +kernel
theorem dX7_write_28 : decode cX7_write 28 = .ok (.ireturn, 1) := by decide +kernel
theorem dX7_write_29 : decode cX7_write 29 = .ok (.aload_n 0, 1) := by decide +kernel
theorem dX7_write_30 : decode cX7_write 30 = .ok (.getfield 10, 3) := by decide +kernel
theorem dX7_write_33 : decode cX7_write 33 = .ok (.iload_n 1, 1) := by decide +kernel
theorem dX7_write_34 : decode cX7_write 34 = .ok (.invokevirtual 73, 3) := by decide +kernel
theorem dX7_write_37 : decode cX7_write 37 = .ok (.aload_n 0, 1) := by decide +kernel
theorem dX7_write_38 : decode cX7_write 38 = .ok (.getfield 10, 3) := by decide +kernel
theorem dX7_write_41 : decode cX7_write 41 = .ok (.getfield 79, 3) := by decide +kernel
theorem dX7_write_44 : decode cX7_write 44 = .ok (.ireturn, 1) := by decide +kernel
theorem dX7_wipe_0 : decode cX7_wipe 0 = .ok (.aload_n 0, 1) := by decide +kernel
theorem dX7_wipe_1 : decode cX7_wipe 1 = .ok (.getfield 10, 3) := by decide +kernel
theorem dX7_wipe_4 : decode cX7_wipe 4 = .ok (.getfield 79, 3) := by decide +kernel
theorem dX7_wipe_7 : decode cX7_wipe 7 = .ok (.istore_n 1, 1) := by decide +kernel
theorem dX7_wipe_8 : decode cX7_wipe 8 = .ok (.aload_n 0, 1) := by decide +kernel
theorem dX7_wipe_9 : decode cX7_wipe 9 = .ok (.getfield 10, 3) := by decide +kernel
theorem dX7_wipe_12 : decode cX7_wipe 12 = .ok (.iconst 0, 1) := by decide +kernel
theorem dX7_wipe_13 : decode cX7_wipe 13 = .ok (.putfield 79, 3) := by decide +kernel
theorem dX7_wipe_16 : decode cX7_wipe 16 = .ok (.iload_n 1, 1) := by decide +kernel
theorem dX7_wipe_17 : decode cX7_wipe 17 = .ok (.ireturn, 1) := by decide +kernel
theorem dX7_fault_0 : decode cX7_fault 0 = .ok (.aload_n 0, 1) := by decide +kernel
theorem dX7_fault_1 : decode cX7_fault 1 = .ok (.getfield 10, 3) := by decide +kernel
theorem dX7_fault_4 : decode cX7_fault 4 = .ok (.invokevirtual 87, 3) := by decide +kernel
theorem dX7_fault_7 : decode cX7_fault 7 = .ok (.ireturn, 1) := by decide +kernel
theorem dX7_lay_0 : decode cX7_lay 0 = .ok (.aload_n 0, 1) := by decide +kernel
theorem dX7_lay_1 : decode cX7_lay 1 = .ok (.getfield 10, 3) := by decide +kernel
theorem dX7_lay_4 : decode cX7_lay 4 = .ok (.getfield 79, 3) := by decide +kernel
theorem dX7_lay_7 : decode cX7_lay 7 = .ok (.ifCond .eq 15, 3) := by decide +kernel
theorem dX7_lay_10 : decode cX7_lay 10 = .ok (.aload_n 0, 1) := by decide +kernel
theorem dX7_lay_11 : decode cX7_lay 11 = .ok (.getfield 10, 3) := by decide +kernel
theorem dX7_lay_14 : decode cX7_lay 14 = .ok (.invokevirtual 87, 3) := by decide +kernel
theorem dX7_lay_17 : decode cX7_lay 17 = .ok (.bipush (-4), 2) := by decide +kernel
theorem dX7_lay_19 : decode cX7_lay 19 = .ok (.if_icmp .eq 6, 3) := by decide +kernel
theorem dX7_lay_22 : decode cX7_lay 22 = .ok (.bipush (-2), 2) := by decide +kernel
theorem dX7_lay_24 : decode cX7_lay 24 = .ok (.ireturn, 1) := by decide +kernel
theorem dX7_lay_25 : decode cX7_lay 25 = .ok (.aload_n 0, 1) := by decide +kernel
theorem dX7_lay_26 : decode cX7_lay 26 = .ok (.invokevirtual 76, 3) := by decide +kernel
theorem dX7_lay_29 : decode cX7_lay 29 = .ok (.aload_n 0, 1) := by decide +kernel
theorem dX7_lay_30 : decode cX7_lay 30 = .ok (.getfield 38, 3) := by decide +kernel
theorem dX7_lay_33 : decode cX7_lay 33 = .ok (.iconst 0, 1) := by decide +kernel
theorem dX7_lay_34 : decode cX7_lay 34 = .ok (.putfield 90, 3) := by decide +kernel
theorem dX7_lay_37 : decode cX7_lay 37 = .ok (.aload_n 0, 1) := by decide +kernel
theorem dX7_lay_38 : decode cX7_lay 38 = .ok (.getfield 42, 3) := by decide +kernel
theorem dX7_lay_41 : decode cX7_lay 41 = .ok (.iconst 0, 1) := by decide +kernel
theorem dX7_lay_42 : decode cX7_lay 42 = .ok (.putfield 90, 3) := by decide +kernel
theorem dX7_lay_45 : decode cX7_lay 45 = .ok (.aload_n 0, 1) := by decide +kernel
theorem dX7_lay_46 : decode cX7_lay 46 = .ok (.getfield 48, 3) := by decide +kernel
theorem dX7_lay_49 : decode cX7_lay 49 = .ok (.iconst 0, 1) := by decide +kernel
theorem dX7_lay_50 : decode cX7_lay 50 = .ok (.putfield 91, 3) := by decide +kernel
theorem dX7_lay_53 : decode cX7_lay 53 = .ok (.aload_n 0, 1) := by decide +kernel
theorem dX7_lay_54 : decode cX7_lay 54 = .ok (.getfield 19, 3) := by decide +kernel
theorem dX7_lay_57 : decode cX7_lay 57 = .ok (.getfield 92, 3) := by decide +kernel
theorem dX7_lay_60 : decode cX7_lay 60 = .ok (.ireturn, 1) := by decide +kernel
theorem dX7_hedge_0 : decode cX7_hedge 0 = .ok (.iload_n 1, 1) := by decide +kernel
theorem dX7_hedge_1 : decode cX7_hedge 1 = .ok (.invokestatic 94, 3) := by decide +kernel
theorem dX7_hedge_4 : decode cX7_hedge 4 = .ok (.ifCond .eq 13, 3) := by decide +kernel
theorem dX7_hedge_7 : decode cX7_hedge 7 = .ok (.iload_n 2, 1) := by decide +kernel
theorem dX7_hedge_8 : decode cX7_hedge 8 = .ok (.iconst 0, 1) := by decide +kernel
theorem dX7_hedge_9 : decode cX7_hedge 9 = .ok (.bipush 7, 2) := by decide +kernel
theorem dX7_hedge_11 : decode cX7_hedge 11 = .ok (.invokestatic 83, 3) := by decide +kernel
theorem dX7_hedge_14 : decode cX7_hedge 14 = .ok (.ifCond .ne 5, 3) := by decide +kernel
theorem dX7_hedge_17 : decode cX7_hedge 17 = .ok (.iconst (-1), 1) := by decide +kernel
theorem dX7_hedge_18 : decode cX7_hedge 18 = .ok (.ireturn, 1) := by decide +kernel
theorem dX7_hedge_19 : decode cX7_hedge 19 = .ok (.aload_n 0, 1) := by decide +kernel
theorem dX7_hedge_20 : decode cX7_hedge 20 = .ok (.getfield 26, 3) := by decide +kernel
theorem dX7_hedge_23 : decode cX7_hedge 23 = .ok (.iload_n 1, 1) := by decide +kernel
theorem dX7_hedge_24 : decode cX7_hedge 24 = .ok (.invokevirtual 98, 3) := by decide +kernel
theorem dX7_hedge_27 : decode cX7_hedge 27 = .ok (.astore_n 3, 1) := by decide +kernel
theorem dX7_hedge_28 : decode cX7_hedge 28 = .ok (.aload_n 0, 1) := by decide +kernel
theorem dX7_hedge_29 : decode cX7_hedge 29 = .ok (.getfield 19, 3) := by decide +kernel
theorem dX7_hedge_32 : decode cX7_hedge 32 = .ok (.aload_n 0, 1) := by decide +kernel
theorem dX7_hedge_33 : decode cX7_hedge 33 = .ok (.getfield 26, 3) := by decide +kernel
theorem dX7_hedge_36 : decode cX7_hedge 36 = .ok (.getfield 102, 3) := by decide +kernel
theorem dX7_hedge_39 : decode cX7_hedge 39 = .ok (.invokevirtual 105, 3) := by decide +kernel
theorem dX7_hedge_42 : decode cX7_hedge 42 = .ok (.istore 4, 2) := by decide +kernel
theorem dX7_hedge_44 : decode cX7_hedge 44 = .ok (.iload_n 2, 1) := by decide +kernel
theorem dX7_hedge_45 : decode cX7_hedge 45 = .ok (.tableswitch 101 0 6 #[43, 48, 53, 58, 63, 70, 96], 43) := by decide +kernel
theorem dX7_hedge_88 : decode cX7_hedge 88 = .ok (.aload_n 3, 1) := by decide +kernel
theorem dX7_hedge_89 : decode cX7_hedge 89 = .ok (.getfield 109, 3) := by decide +kernel
theorem dX7_hedge_92 : decode cX7_hedge 92 = .ok (.ireturn, 1) := by decide +kernel
theorem dX7_hedge_93 : decode cX7_hedge 93 = .ok (.aload_n 3, 1) := by decide +kernel
theorem dX7_hedge_94 : decode cX7_hedge 94 = .ok (.getfield 114, 3) := by decide +kernel
theorem dX7_hedge_97 : decode cX7_hedge 97 = .ok (.ireturn, 1) := by decide +kernel
theorem dX7_hedge_98 : decode cX7_hedge 98 = .ok (.aload_n 3, 1) := by decide +kernel
theorem dX7_hedge_99 : decode cX7_hedge 99 = .ok (.getfield 117, 3) := by decide +kernel
theorem dX7_hedge_102 : decode cX7_hedge 102 = .ok (.ireturn, 1) := by decide +kernel
theorem dX7_hedge_103 : decode cX7_hedge 103 = .ok (.aload_n 3, 1) := by decide +kernel
theorem dX7_hedge_104 : decode cX7_hedge 104 = .ok (.getfield 120, 3) := by decide +kernel
theorem dX7_hedge_107 : decode cX7_hedge 107 = .ok (.ireturn, 1) := by decide +kernel
theorem dX7_hedge_108 : decode cX7_hedge 108 = .ok (.aload_n 3, 1) := by decide +kernel
theorem dX7_hedge_109 : decode cX7_hedge 109 = .ok (.iload 4, 2) := by decide +kernel
theorem dX7_hedge_111 : decode cX7_hedge 111 = .ok (.invokevirtual 123, 3) := by decide +kernel
theorem dX7_hedge_114 : decode cX7_hedge 114 = .ok (.ireturn, 1) := by decide +kernel
theorem dX7_hedge_115 : decode cX7_hedge 115 = .ok (.aload_n 0, 1) := by decide +kernel
theorem dX7_hedge_116 : decode cX7_hedge 116 = .ok (.getfield 26, 3) := by decide +kernel
theorem dX7_hedge_119 : decode cX7_hedge 119 = .ok (.iload_n 1, 1) := by decide +kernel
theorem dX7_hedge_120 : decode cX7_hedge 120 = .ok (.iload 4, 2) := by decide +kernel
theorem dX7_hedge_122 : decode cX7_hedge 122 = .ok (.aload_n 0, 1) := by decide +kernel
theorem dX7_hedge_123 : decode cX7_hedge 123 = .ok (.getfield 19, 3) := by decide +kernel
theorem dX7_hedge_126 : decode cX7_hedge 126 = .ok (.getfield 92, 3) := by decide +kernel
theorem dX7_hedge_129 : decode cX7_hedge 129 = .ok (.invokevirtual 126, 3) := by decide +kernel
theorem dX7_hedge_132 : decode cX7_hedge 132 = .ok (.ifCond .eq 7, 3) := by decide +kernel
theorem dX7_hedge_135 : decode cX7_hedge 135 = .ok (.iconst 1, 1) := by decide +kernel
theorem dX7_hedge_136 : decode cX7_hedge 136 = .ok (.goto 4, 3) := by decide +kernel
theorem dX7_hedge_139 : decode cX7_hedge 139 = .ok (.iconst 0, 1) := by decide +kernel
theorem dX7_hedge_140 : decode cX7_hedge 140 = .ok (.ireturn, 1) := by decide +kernel
theorem dX7_hedge_141 : decode cX7_hedge 141 = .ok (.aload_n 3, 1) := by decide +kernel
theorem dX7_hedge_142 : decode cX7_hedge 142 = .ok (.getfield 129, 3) := by decide +kernel
theorem dX7_hedge_145 : decode cX7_hedge 145 = .ok (.ireturn, 1) := by decide +kernel
theorem dX7_hedge_146 : decode cX7_hedge 146 = .ok (.aload_n 3, 1) := by decide +kernel
theorem dX7_hedge_147 : decode cX7_hedge 147 = .ok (.getfield 129, 3) := by decide +kernel
theorem dX7_hedge_150 : decode cX7_hedge 150 = .ok (.aload_n 0, 1) := by decide +kernel
theorem dX7_hedge_151 : decode cX7_hedge 151 = .ok (.getfield 19, 3) := by decide +kernel
theorem dX7_hedge_154 : decode cX7_hedge 154 = .ok (.getfield 132, 3) := by decide +kernel
theorem dX7_hedge_157 : decode cX7_hedge 157 = .ok (.if_icmp .lt 7, 3) := by decide +kernel
theorem dX7_hedge_160 : decode cX7_hedge 160 = .ok (.iconst 1, 1) := by decide +kernel
theorem dX7_hedge_161 : decode cX7_hedge 161 = .ok (.goto 4, 3) := by decide +kernel
theorem dX7_hedge_164 : decode cX7_hedge 164 = .ok (.iconst 0, 1) := by decide +kernel
theorem dX7_hedge_165 : decode cX7_hedge 165 = .ok (.ireturn, 1) := by decide +kernel
theorem dX7_month_0 : decode cX7_month 0 = .ok (.iload_n 1, 1) := by decide +kernel
theorem dX7_month_1 : decode cX7_month 1 = .ok (.iconst 0, 1) := by decide +kernel
theorem dX7_month_2 : decode cX7_month 2 = .ok (.bipush 99, 2) := by decide +kernel
theorem dX7_month_4 : decode cX7_month 4 = .ok (.invokestatic 83, 3) := by decide +kernel
theorem dX7_month_7 : decode cX7_month 7 = .ok (.ifCond .eq 12, 3) := by decide +kernel
theorem dX7_month_10 : decode cX7_month 10 = .ok (.iload_n 2, 1) := by decide +kernel
theorem dX7_month_11 : decode cX7_month 11 = .ok (.iconst 0, 1) := by decide +kernel
theorem dX7_month_12 : decode cX7_month 12 = .ok (.iconst 1, 1) := by decide +kernel
theorem dX7_month_13 : decode cX7_month 13 = .ok (.invokestatic 83, 3) := by decide +kernel
theorem dX7_month_16 : decode cX7_month 16 = .ok (.ifCond .ne 5, 3) := by decide +kernel
theorem dX7_month_19 : decode cX7_month 19 = .ok (.iconst (-1), 1) := by decide +kernel
theorem dX7_month_20 : decode cX7_month 20 = .ok (.ireturn, 1) := by decide +kernel
theorem dX7_month_21 : decode cX7_month 21 = .ok (.iload_n 2, 1) := by decide +kernel
theorem dX7_month_22 : decode cX7_month 22 = .ok (.ifCond .ne 12, 3) := by decide +kernel
theorem dX7_month_25 : decode cX7_month 25 = .ok (.aload_n 0, 1) := by decide +kernel
theorem dX7_month_26 : decode cX7_month 26 = .ok (.getfield 19, 3) := by decide +kernel
theorem dX7_month_29 : decode cX7_month 29 = .ok (.iload_n 1, 1) := by decide +kernel
theorem dX7_month_30 : decode cX7_month 30 = .ok (.invokevirtual 105, 3) := by decide +kernel
theorem dX7_month_33 : decode cX7_month 33 = .ok (.ireturn, 1) := by decide +kernel
theorem dX7_month_34 : decode cX7_month 34 = .ok (.aload_n 0, 1) := by decide +kernel
theorem dX7_month_35 : decode cX7_month 35 = .ok (.getfield 19, 3) := by decide +kernel
theorem dX7_month_38 : decode cX7_month 38 = .ok (.iload_n 1, 1) := by decide +kernel
theorem dX7_month_39 : decode cX7_month 39 = .ok (.invokevirtual 135, 3) := by decide +kernel
theorem dX7_month_42 : decode cX7_month 42 = .ok (.ifCond .eq 7, 3) := by decide +kernel
theorem dX7_month_45 : decode cX7_month 45 = .ok (.iconst 1, 1) := by decide +kernel
theorem dX7_month_46 : decode cX7_month 46 = .ok (.goto 4, 3) := by decide +kernel
theorem dX7_month_49 : decode cX7_month 49 = .ok (.iconst 0, 1) := by decide +kernel
theorem dX7_month_50 : decode cX7_month 50 = .ok (.ireturn, 1) := by decide +kernel
theorem dX7_act_0 : decode cX7_act 0 = .ok (.iload_n 1, 1) := by decide +kernel
theorem dX7_act_1 : decode cX7_act 1 = .ok (.invokestatic 138, 3) := by decide +kernel
theorem dX7_act_4 : decode cX7_act 4 = .ok (.ifCond .eq 10, 3) := by decide +kernel
theorem dX7_act_7 : decode cX7_act 7 = .ok (.iload_n 2, 1) := by decide +kernel
theorem dX7_act_8 : decode cX7_act 8 = .ok (.invokestatic 138, 3) := by decide +kernel
theorem dX7_act_11 : decode cX7_act 11 = .ok (.ifCond .ne 5, 3) := by decide +kernel
theorem dX7_act_14 : decode cX7_act 14 = .ok (.iconst (-1), 1) := by decide +kernel
theorem dX7_act_15 : decode cX7_act 15 = .ok (.ireturn, 1) := by decide +kernel
theorem dX7_act_16 : decode cX7_act 16 = .ok (.aload_n 0, 1) := by decide +kernel
theorem dX7_act_17 : decode cX7_act 17 = .ok (.invokevirtual 141, 3) := by decide +kernel
theorem dX7_act_20 : decode cX7_act 20 = .ok (.ifCond .eq 6, 3) := by decide +kernel
theorem dX7_act_23 : decode cX7_act 23 = .ok (.bipush (-2), 2) := by decide +kernel
theorem dX7_act_25 : decode cX7_act 25 = .ok (.ireturn, 1) := by decide +kernel
theorem dX7_act_26 : decode cX7_act 26 = .ok (.aload_n 0, 1) := by decide +kernel
theorem dX7_act_27 : decode cX7_act 27 = .ok (.getfield 38, 3) := by decide +kernel
theorem dX7_act_30 : decode cX7_act 30 = .ok (.aload_n 0, 1) := by decide +kernel
theorem dX7_act_31 : decode cX7_act 31 = .ok (.getfield 26, 3) := by decide +kernel
theorem dX7_act_34 : decode cX7_act 34 = .ok (.invokevirtual 145, 3) := by decide +kernel
theorem dX7_act_37 : decode cX7_act 37 = .ok (.aload_n 0, 1) := by decide +kernel
theorem dX7_act_38 : decode cX7_act 38 = .ok (.getfield 26, 3) := by decide +kernel
theorem dX7_act_41 : decode cX7_act 41 = .ok (.aload_n 0, 1) := by decide +kernel
theorem dX7_act_42 : decode cX7_act 42 = .ok (.getfield 19, 3) := by decide +kernel
theorem dX7_act_45 : decode cX7_act 45 = .ok (.iload_n 1, 1) := by decide +kernel
theorem dX7_act_46 : decode cX7_act 46 = .ok (.iload_n 2, 1) := by decide +kernel
theorem dX7_act_47 : decode cX7_act 47 = .ok (.invokevirtual 149, 3) := by decide +kernel
theorem dX7_act_50 : decode cX7_act 50 = .ok (.aload_n 0, 1) := by decide +kernel
theorem dX7_act_51 : decode cX7_act 51 = .ok (.getfield 26, 3) := by decide +kernel
theorem dX7_act_54 : decode cX7_act 54 = .ok (.getfield 153, 3) := by decide +kernel
theorem dX7_act_57 : decode cX7_act 57 = .ok (.getfield 129, 3) := by decide +kernel
theorem dX7_act_60 : decode cX7_act 60 = .ok (.ifCond .le 7, 3) := by decide +kernel
theorem dX7_act_63 : decode cX7_act 63 = .ok (.iconst 1, 1) := by decide +kernel
theorem dX7_act_64 : decode cX7_act 64 = .ok (.goto 4, 3) := by decide +kernel
theorem dX7_act_67 : decode cX7_act 67 = .ok (.iconst 0, 1) := by decide +kernel
theorem dX7_act_68 : decode cX7_act 68 = .ok (.aload_n 0, 1) := by decide +kernel
theorem dX7_act_69 : decode cX7_act 69 = .ok (.getfield 26, 3) := by decide +kernel
theorem dX7_act_72 : decode cX7_act 72 = .ok (.getfield 157, 3) := by decide +kernel
theorem dX7_act_75 : decode cX7_act 75 = .ok (.getfield 129, 3) := by decide +kernel
theorem dX7_act_78 : decode cX7_act 78 = .ok (.ifCond .le 7, 3) := by decide +kernel
theorem dX7_act_81 : decode cX7_act 81 = .ok (.iconst 2, 1) := by decide +kernel
theorem dX7_act_82 : decode cX7_act 82 = .ok (.goto 4, 3) := by decide +kernel
theorem dX7_act_85 : decode cX7_act 85 = .ok (.iconst 0, 1) := by decide +kernel
theorem dX7_act_86 : decode cX7_act 86 = .ok (.ior, 1) := by decide +kernel
theorem dX7_act_87 : decode cX7_act 87 = .ok (.ireturn, 1) := by decide +kernel
theorem dX7_pass_0 : decode cX7_pass 0 = .ok (.iload_n 1, 1) := by decide +kernel
theorem dX7_pass_1 : decode cX7_pass 1 = .ok (.iconst 1, 1) := by decide +kernel
theorem dX7_pass_2 : decode cX7_pass 2 = .ok (.bipush 24, 2) := by decide +kernel
theorem dX7_pass_4 : decode cX7_pass 4 = .ok (.invokestatic 83, 3) := by decide +kernel
theorem dX7_pass_7 : decode cX7_pass 7 = .ok (.ifCond .ne 5, 3) := by decide +kernel
theorem dX7_pass_10 : decode cX7_pass 10 = .ok (.iconst (-1), 1) := by decide +kernel
theorem dX7_pass_11 : decode cX7_pass 11 = .ok (.ireturn, 1) := by decide +kernel
theorem dX7_pass_12 : decode cX7_pass 12 = .ok (.aload_n 0, 1) := by decide +kernel
theorem dX7_pass_13 : decode cX7_pass 13 = .ok (.invokevirtual 141, 3) := by decide +kernel
theorem dX7_pass_16 : decode cX7_pass 16 = .ok (.ifCond .eq 6, 3) := by decide +kernel
theorem dX7_pass_19 : decode cX7_pass 19 = .ok (.bipush (-2), 2) := by decide +kernel
theorem dX7_pass_21 : decode cX7_pass 21 = .ok (.ireturn, 1) := by decide +kernel
theorem dX7_pass_22 : decode cX7_pass 22 = .ok (.aload_n 0, 1) := by decide +kernel
theorem dX7_pass_23 : decode cX7_pass 23 = .ok (.getfield 38, 3) := by decide +kernel
theorem dX7_pass_26 : decode cX7_pass 26 = .ok (.aload_n 0, 1) := by decide +kernel
theorem dX7_pass_27 : decode cX7_pass 27 = .ok (.getfield 26, 3) := by decide +kernel
theorem dX7_pass_30 : decode cX7_pass 30 = .ok (.invokevirtual 145, 3) := by decide +kernel
theorem dX7_pass_33 : decode cX7_pass 33 = .ok (.aload_n 0, 1) := by decide +kernel
theorem dX7_pass_34 : decode cX7_pass 34 = .ok (.getfield 26, 3) := by decide +kernel
theorem dX7_pass_37 : decode cX7_pass 37 = .ok (.aload_n 0, 1) := by decide +kernel
theorem dX7_pass_38 : decode cX7_pass 38 = .ok (.getfield 19, 3) := by decide +kernel
theorem dX7_pass_41 : decode cX7_pass 41 = .ok (.iload_n 1, 1) := by decide +kernel
theorem dX7_pass_42 : decode cX7_pass 42 = .ok (.invokevirtual 160, 3) := by decide +kernel
theorem dX7_pass_45 : decode cX7_pass 45 = .ok (.aload_n 0, 1) := by decide +kernel
theorem dX7_pass_46 : decode cX7_pass 46 = .ok (.getfield 26, 3) := by decide +kernel
theorem dX7_pass_49 : decode cX7_pass 49 = .ok (.getfield 102, 3) := by decide +kernel
theorem dX7_pass_52 : decode cX7_pass 52 = .ok (.ireturn, 1) := by decide +kernel
theorem dX7_plant_0 : decode cX7_plant 0 = .ok (.iload_n 1, 1) := by decide +kernel
theorem dX7_plant_1 : decode cX7_plant 1 = .ok (.invokestatic 94, 3) := by decide +kernel
theorem dX7_plant_4 : decode cX7_plant 4 = .ok (.ifCond .eq 10, 3) := by decide +kernel
theorem dX7_plant_7 : decode cX7_plant 7 = .ok (.iload_n 2, 1) := by decide +kernel
theorem dX7_plant_8 : decode cX7_plant 8 = .ok (.invokestatic 164, 3) := by decide +kernel
theorem dX7_plant_11 : decode cX7_plant 11 = .ok (.ifCond .ne 5, 3) := by decide +kernel
theorem dX7_plant_14 : decode cX7_plant 14 = .ok (.iconst (-1), 1) := by decide +kernel
theorem dX7_plant_15 : decode cX7_plant 15 = .ok (.ireturn, 1) := by decide +kernel
theorem dX7_plant_16 : decode cX7_plant 16 = .ok (.aload_n 0, 1) := by decide +kernel
theorem dX7_plant_17 : decode cX7_plant 17 = .ok (.getfield 26, 3) := by decide +kernel
theorem dX7_plant_20 : decode cX7_plant 20 = .ok (.iload_n 1, 1) := by decide +kernel
theorem dX7_plant_21 : decode cX7_plant 21 = .ok (.invokevirtual 98, 3) := by decide +kernel
theorem dX7_plant_24 : decode cX7_plant 24 = .ok (.astore_n 3, 1) := by decide +kernel
theorem dX7_plant_25 : decode cX7_plant 25 = .ok (.aload_n 0, 1) := by decide +kernel
theorem dX7_plant_26 : decode cX7_plant 26 = .ok (.invokevirtual 141, 3) := by decide +kernel
theorem dX7_plant_29 : decode cX7_plant 29 = .ok (.ifCond .ne 11, 3) := by decide +kernel
theorem dX7_plant_32 : decode cX7_plant 32 = .ok (.aload_n 3, 1) := by decide +kernel
theorem dX7_plant_33 : decode cX7_plant 33 = .ok (.getfield 120, 3) := by decide +kernel
theorem dX7_plant_36 : decode cX7_plant 36 = .ok (.iconst 5, 1) := by decide +kernel
theorem dX7_plant_37 : decode cX7_plant 37 = .ok (.if_icmp .ge 6, 3) := by decide +kernel
theorem dX7_plant_40 : decode cX7_plant 40 = .ok (.bipush (-2), 2) := by decide +kernel
theorem dX7_plant_42 : decode cX7_plant 42 = .ok (.ireturn, 1) := by decide +kernel
theorem dX7_plant_43 : decode cX7_plant 43 = .ok (.aload_n 0, 1) := by decide +kernel
theorem dX7_plant_44 : decode cX7_plant 44 = .ok (.getfield 38, 3) := by decide +kernel
theorem dX7_plant_47 : decode cX7_plant 47 = .ok (.aload_n 0, 1) := by decide +kernel
theorem dX7_plant_48 : decode cX7_plant 48 = .ok (.getfield 26, 3) := by decide +kernel
theorem dX7_plant_51 : decode cX7_plant 51 = .ok (.invokevirtual 145, 3) := by decide +kernel
theorem dX7_plant_54 : decode cX7_plant 54 = .ok (.aload_n 3, 1) := by decide +kernel
theorem dX7_plant_55 : decode cX7_plant 55 = .ok (.dup, 1) := by decide +kernel
theorem dX7_plant_56 : decode cX7_plant 56 = .ok (.getfield 120, 3) := by decide +kernel
theorem dX7_plant_59 : decode cX7_plant 59 = .ok (.iconst 5, 1) := by decide +kernel
theorem dX7_plant_60 : decode cX7_plant 60 = .ok (.isub, 1) := by decide +kernel
theorem dX7_plant_61 : decode cX7_plant 61 = .ok (.putfield 120, 3) := by decide +kernel
theorem dX7_plant_64 : decode cX7_plant 64 = .ok (.aload_n 3, 1) := by decide +kernel
theorem dX7_plant_65 : decode cX7_plant 65 = .ok (.iload_n 2, 1) := by decide +kernel
theorem dX7_plant_66 : decode cX7_plant 66 = .ok (.putfield 109, 3) := by decide +kernel
theorem dX7_plant_69 : decode cX7_plant 69 = .ok (.aload_n 3, 1) := by decide +kernel
theorem dX7_plant_70 : decode cX7_plant 70 = .ok (.iconst 1, 1) := by decide +kernel
theorem dX7_plant_71 : decode cX7_plant 71 = .ok (.putfield 114, 3) := by decide +kernel
theorem dX7_plant_74 : decode cX7_plant 74 = .ok (.aload_n 3, 1) := by decide +kernel
theorem dX7_plant_75 : decode cX7_plant 75 = .ok (.iconst 0, 1) := by decide +kernel
theorem dX7_plant_76 : decode cX7_plant 76 = .ok (.putfield 117, 3) := by decide +kernel
theorem dX7_plant_79 : decode cX7_plant 79 = .ok (.aload_n 3, 1) := by decide +kernel
theorem dX7_plant_80 : decode cX7_plant 80 = .ok (.getfield 120, 3) := by decide +kernel
theorem dX7_plant_83 : decode cX7_plant 83 = .ok (.ireturn, 1) := by decide +kernel
theorem dX7_undo_0 : decode cX7_undo 0 = .ok (.aload_n 0, 1) := by decide +kernel
theorem dX7_undo_1 : decode cX7_undo 1 = .ok (.getfield 38, 3) := by decide +kernel
theorem dX7_undo_4 : decode cX7_undo 4 = .ok (.getfield 90, 3) := by decide +kernel
theorem dX7_undo_7 : decode cX7_undo 7 = .ok (.ifCond .ne 6, 3) := by decide +kernel
theorem dX7_undo_10 : decode cX7_undo 10 = .ok (.bipush (-2), 2) := by decide +kernel
theorem dX7_undo_12 : decode cX7_undo 12 = .ok (.ireturn, 1) := by decide +kernel
theorem dX7_undo_13 : decode cX7_undo 13 = .ok (.aload_n 0, 1) := by decide +kernel
theorem dX7_undo_14 : decode cX7_undo 14 = .ok (.getfield 38, 3) := by decide +kernel
theorem dX7_undo_17 : decode cX7_undo 17 = .ok (.aload_n 0, 1) := by decide +kernel
theorem dX7_undo_18 : decode cX7_undo 18 = .ok (.getfield 26, 3) := by decide +kernel
theorem dX7_undo_21 : decode cX7_undo 21 = .ok (.invokevirtual 167, 3) := by decide +kernel
theorem dX7_undo_24 : decode cX7_undo 24 = .ok (.aload_n 0, 1) := by decide +kernel
theorem dX7_undo_25 : decode cX7_undo 25 = .ok (.getfield 38, 3) := by decide +kernel
theorem dX7_undo_28 : decode cX7_undo 28 = .ok (.getfield 90, 3) := by decide +kernel
theorem dX7_undo_31 : decode cX7_undo 31 = .ok (.ireturn, 1) := by decide +kernel
theorem dX7_behind_0 : decode cX7_behind 0 = .ok (.iload_n 1, 1) := by decide +kernel
theorem dX7_behind_1 : decode cX7_behind 1 = .ok (.iconst 0, 1) := by decide +kernel
theorem dX7_behind_2 : decode cX7_behind 2 = .ok (.bipush 36, 2) := by decide +kernel
theorem dX7_behind_4 : decode cX7_behind 4 = .ok (.invokestatic 83, 3) := by decide +kernel
theorem dX7_behind_7 : decode cX7_behind 7 = .ok (.ifCond .eq 12, 3) := by decide +kernel
theorem dX7_behind_10 : decode cX7_behind 10 = .ok (.iload_n 2, 1) := by decide +kernel
theorem dX7_behind_11 : decode cX7_behind 11 = .ok (.iconst 0, 1) := by decide +kernel
theorem dX7_behind_12 : decode cX7_behind 12 = .ok (.iconst 2, 1) := by decide +kernel
theorem dX7_behind_13 : decode cX7_behind 13 = .ok (.invokestatic 83, 3) := by decide +kernel
theorem dX7_behind_16 : decode cX7_behind 16 = .ok (.ifCond .ne 5, 3) := by decide +kernel
theorem dX7_behind_19 : decode cX7_behind 19 = .ok (.iconst (-1), 1) := by decide +kernel
theorem dX7_behind_20 : decode cX7_behind 20 = .ok (.ireturn, 1) := by decide +kernel
theorem dX7_behind_21 : decode cX7_behind 21 = .ok (.aload_n 0, 1) := by decide +kernel
theorem dX7_behind_22 : decode cX7_behind 22 = .ok (.getfield 30, 3) := by decide +kernel
theorem dX7_behind_25 : decode cX7_behind 25 = .ok (.aload_n 0, 1) := by decide +kernel
theorem dX7_behind_26 : decode cX7_behind 26 = .ok (.getfield 26, 3) := by decide +kernel
theorem dX7_behind_29 : decode cX7_behind 29 = .ok (.invokevirtual 170, 3) := by decide +kernel
theorem dX7_behind_32 : decode cX7_behind 32 = .ok (.aload_n 0, 1) := by decide +kernel
theorem dX7_behind_33 : decode cX7_behind 33 = .ok (.getfield 30, 3) := by decide +kernel
theorem dX7_behind_36 : decode cX7_behind 36 = .ok (.aload_n 0, 1) := by decide +kernel
theorem dX7_behind_37 : decode cX7_behind 37 = .ok (.getfield 19, 3) := by decide +kernel
theorem dX7_behind_40 : decode cX7_behind 40 = .ok (.iload_n 1, 1) := by decide +kernel
theorem dX7_behind_41 : decode cX7_behind 41 = .ok (.invokevirtual 160, 3) := by decide +kernel
theorem dX7_behind_44 : decode cX7_behind 44 = .ok (.aload_n 0, 1) := by decide +kernel
theorem dX7_behind_45 : decode cX7_behind 45 = .ok (.iload_n 2, 1) := by decide +kernel
theorem dX7_behind_46 : decode cX7_behind 46 = .ok (.invokevirtual 173, 3) := by decide +kernel
theorem dX7_behind_49 : decode cX7_behind 49 = .ok (.ireturn, 1) := by decide +kernel
theorem dX7_soonest_0 : decode cX7_soonest 0 = .ok (.iload_n 1, 1) := by decide +kernel
theorem dX7_soonest_1 : decode cX7_soonest 1 = .ok (.invokestatic 94, 3) := by decide +kernel
theorem dX7_soonest_4 : decode cX7_soonest 4 = .ok (.ifCond .eq 12, 3) := by decide +kernel
theorem dX7_soonest_7 : decode cX7_soonest 7 = .ok (.iload_n 2, 1) := by decide +kernel
theorem dX7_soonest_8 : decode cX7_soonest 8 = .ok (.iconst 0, 1) := by decide +kernel
theorem dX7_soonest_9 : decode cX7_soonest 9 = .ok (.iconst 5, 1) := by decide +kernel
theorem dX7_soonest_10 : decode cX7_soonest 10 = .ok (.invokestatic 83, 3) := by decide +kernel
theorem dX7_soonest_13 : decode cX7_soonest 13 = .ok (.ifCond .ne 5, 3) := by decide +kernel
theorem dX7_soonest_16 : decode cX7_soonest 16 = .ok (.iconst (-1), 1) := by decide +kernel
theorem dX7_soonest_17 : decode cX7_soonest 17 = .ok (.ireturn, 1) := by decide +kernel
theorem dX7_soonest_18 : decode cX7_soonest 18 = .ok (.aload_n 0, 1) := by decide +kernel
theorem dX7_soonest_19 : decode cX7_soonest 19 = .ok (.invokevirtual 141, 3) := by decide +kernel
theorem dX7_soonest_22 : decode cX7_soonest 22 = .ok (.ifCond .eq 6, 3) := by decide +kernel
theorem dX7_soonest_25 : decode cX7_soonest 25 = .ok (.bipush (-2), 2) := by decide +kernel
theorem dX7_soonest_27 : decode cX7_soonest 27 = .ok (.ireturn, 1) := by decide +kernel
theorem dX7_soonest_28 : decode cX7_soonest 28 = .ok (.aload_n 0, 1) := by decide +kernel
theorem dX7_soonest_29 : decode cX7_soonest 29 = .ok (.iload_n 1, 1) := by decide +kernel
theorem dX7_soonest_30 : decode cX7_soonest 30 = .ok (.invokevirtual 176, 3) := by decide +kernel
theorem dX7_soonest_33 : decode cX7_soonest 33 = .ok (.istore_n 3, 1) := by decide +kernel
theorem dX7_soonest_34 : decode cX7_soonest 34 = .ok (.iload_n 3, 1) := by decide +kernel
theorem dX7_soonest_35 : decode cX7_soonest 35 = .ok (.ifCond .eq 8, 3) := by decide +kernel
theorem dX7_soonest_38 : decode cX7_soonest 38 = .ok (.iload_n 2, 1) := by decide +kernel
theorem dX7_soonest_39 : decode cX7_soonest 39 = .ok (.iload_n 3, 1) := by decide +kernel
theorem dX7_soonest_40 : decode cX7_soonest 40 = .ok (.if_icmp .le 6, 3) := by decide +kernel
theorem dX7_soonest_43 : decode cX7_soonest 43 = .ok (.bipush (-4), 2) := by decide +kernel
theorem dX7_soonest_45 : decode cX7_soonest 45 = .ok (.ireturn, 1) := by decide +kernel
theorem dX7_soonest_46 : decode cX7_soonest 46 = .ok (.iload_n 2, 1) := by decide +kernel
theorem dX7_soonest_47 : decode cX7_soonest 47 = .ok (.ifCond .ne 7, 3) := by decide +kernel
theorem dX7_soonest_50 : decode cX7_soonest 50 = .ok (.iload_n 3, 1) := by decide +kernel
theorem dX7_soonest_51 : decode cX7_soonest 51 = .ok (.goto 16, 3) := by decide +kernel
theorem dX7_soonest_54 : decode cX7_soonest 54 = .ok (.aload_n 0, 1) := by decide +kernel
theorem dX7_soonest_55 : decode cX7_soonest 55 = .ok (.getfield 57, 3) := by decide +kernel
theorem dX7_soonest_58 : decode cX7_soonest 58 = .ok (.getfield 179, 3) := by decide +kernel
theorem dX7_soonest_61 : decode cX7_soonest 61 = .ok (.iload_n 2, 1) := by decide +kernel
theorem dX7_soonest_62 : decode cX7_soonest 62 = .ok (.iconst 1, 1) := by decide +kernel
theorem dX7_soonest_63 : decode cX7_soonest 63 = .ok (.isub, 1) := by decide +kernel
theorem dX7_soonest_64 : decode cX7_soonest 64 = .ok (.invokestatic 183, 3) := by decide +kernel
theorem dX7_soonest_67 : decode cX7_soonest 67 = .ok (.ireturn, 1) := by decide +kernel
theorem dX7_hold_0 : decode cX7_hold 0 = .ok (.iload_n 1, 1) := by decide +kernel
theorem dX7_hold_1 : decode cX7_hold 1 = .ok (.invokestatic 94, 3) := by decide +kernel
theorem dX7_hold_4 : decode cX7_hold 4 = .ok (.ifCond .eq 21, 3) := by decide +kernel
theorem dX7_hold_7 : decode cX7_hold 7 = .ok (.iload_n 2, 1) := by decide +kernel
theorem dX7_hold_8 : decode cX7_hold 8 = .ok (.iconst 1, 1) := by decide +kernel
theorem dX7_hold_9 : decode cX7_hold 9 = .ok (.iconst 5, 1) := by decide +kernel
theorem dX7_hold_10 : decode cX7_hold 10 = .ok (.invokestatic 83, 3) := by decide +kernel
theorem dX7_hold_13 : decode cX7_hold 13 = .ok (.ifCond .eq 12, 3) := by decide +kernel
theorem dX7_hold_16 : decode cX7_hold 16 = .ok (.iload_n 3, 1) := by decide +kernel
theorem dX7_hold_17 : decode cX7_hold 17 = .ok (.iconst 1, 1) := by decide +kernel
theorem dX7_hold_18 : decode cX7_hold 18 = .ok (.iload_n 2, 1) := by decide +kernel
theorem dX7_hold_19 : decode cX7_hold 19 = .ok (.invokestatic 83, 3) := by decide +kernel
theorem dX7_hold_22 : decode cX7_hold 22 = .ok (.ifCond .ne 5, 3) := by decide +kernel
theorem dX7_hold_25 : decode cX7_hold 25 = .ok (.iconst (-1), 1) := by decide +kernel
theorem dX7_hold_26 : decode cX7_hold 26 = .ok (.ireturn, 1) := by decide +kernel
theorem dX7_hold_27 : decode cX7_hold 27 = .ok (.aload_n 0, 1) := by decide +kernel
theorem dX7_hold_28 : decode cX7_hold 28 = .ok (.invokevirtual 141, 3) := by decide +kernel
theorem dX7_hold_31 : decode cX7_hold 31 = .ok (.ifCond .eq 6, 3) := by decide +kernel
theorem dX7_hold_34 : decode cX7_hold 34 = .ok (.bipush (-2), 2) := by decide +kernel
theorem dX7_hold_36 : decode cX7_hold 36 = .ok (.ireturn, 1) := by decide +kernel
theorem dX7_hold_37 : decode cX7_hold 37 = .ok (.aload_n 0, 1) := by decide +kernel
theorem dX7_hold_38 : decode cX7_hold 38 = .ok (.getfield 57, 3) := by decide +kernel
theorem dX7_hold_41 : decode cX7_hold 41 = .ok (.aload_n 0, 1) := by decide +kernel
theorem dX7_hold_42 : decode cX7_hold 42 = .ok (.getfield 26, 3) := by decide +kernel
theorem dX7_hold_45 : decode cX7_hold 45 = .ok (.iload_n 1, 1) := by decide +kernel
theorem dX7_hold_46 : decode cX7_hold 46 = .ok (.iload_n 2, 1) := by decide +kernel
theorem dX7_hold_47 : decode cX7_hold 47 = .ok (.iconst 0, 1) := by decide +kernel
theorem dX7_hold_48 : decode cX7_hold 48 = .ok (.invokevirtual 187, 3) := by decide +kernel
theorem dX7_hold_51 : decode cX7_hold 51 = .ok (.aload_n 0, 1) := by decide +kernel
theorem dX7_hold_52 : decode cX7_hold 52 = .ok (.getfield 57, 3) := by decide +kernel
theorem dX7_hold_55 : decode cX7_hold 55 = .ok (.iconst 0, 1) := by decide +kernel
theorem dX7_hold_56 : decode cX7_hold 56 = .ok (.invokestatic 191, 3) := by decide +kernel
theorem dX7_hold_59 : decode cX7_hold 59 = .ok (.ifCond .eq 19, 3) := by decide +kernel
theorem dX7_hold_62 : decode cX7_hold 62 = .ok (.aload_n 0, 1) := by decide +kernel
theorem dX7_hold_63 : decode cX7_hold 63 = .ok (.getfield 57, 3) := by decide +kernel
theorem dX7_hold_66 : decode cX7_hold 66 = .ok (.getfield 179, 3) := by decide +kernel
theorem dX7_hold_69 : decode cX7_hold 69 = .ok (.iload_n 3, 1) := by decide +kernel
theorem dX7_hold_70 : decode cX7_hold 70 = .ok (.iconst 1, 1) := by decide +kernel
theorem dX7_hold_71 : decode cX7_hold 71 = .ok (.isub, 1) := by decide +kernel
theorem dX7_hold_72 : decode cX7_hold 72 = .ok (.invokestatic 183, 3) := by decide +kernel
theorem dX7_hold_75 : decode cX7_hold 75 = .ok (.goto 5, 3) := by decide +kernel
theorem dX7_hold_78 : decode cX7_hold 78 = .ok (.bipush (-4), 2) := by decide +kernel
theorem dX7_hold_80 : decode cX7_hold 80 = .ok (.ireturn, 1) := by decide +kernel
theorem dX7_play_0 : decode cX7_play 0 = .ok (.iload_n 1, 1) := by decide +kernel
theorem dX7_play_1 : decode cX7_play 1 = .ok (.iconst 1, 1) := by decide +kernel
theorem dX7_play_2 : decode cX7_play 2 = .ok (.iconst 3, 1) := by decide +kernel
theorem dX7_play_3 : decode cX7_play 3 = .ok (.invokestatic 83, 3) := by decide +kernel
theorem dX7_play_6 : decode cX7_play 6 = .ok (.ifCond .eq 12, 3) := by decide +kernel
theorem dX7_play_9 : decode cX7_play 9 = .ok (.iload_n 2, 1) := by decide +kernel
theorem dX7_play_10 : decode cX7_play 10 = .ok (.iconst 0, 1) := by decide +kernel
theorem dX7_play_11 : decode cX7_play 11 = .ok (.iconst 1, 1) := by decide +kernel
theorem dX7_play_12 : decode cX7_play 12 = .ok (.invokestatic 83, 3) := by decide +kernel
theorem dX7_play_15 : decode cX7_play 15 = .ok (.ifCond .ne 5, 3) := by decide +kernel
theorem dX7_play_18 : decode cX7_play 18 = .ok (.iconst (-1), 1) := by decide +kernel
theorem dX7_play_19 : decode cX7_play 19 = .ok (.ireturn, 1) := by decide +kernel
theorem dX7_play_20 : decode cX7_play 20 = .ok (.aload_n 0, 1) := by decide +kernel
theorem dX7_play_21 : decode cX7_play 21 = .ok (.invokevirtual 141, 3) := by decide +kernel
theorem dX7_play_24 : decode cX7_play 24 = .ok (.ifCond .eq 6, 3) := by decide +kernel
theorem dX7_play_27 : decode cX7_play 27 = .ok (.bipush (-2), 2) := by decide +kernel
theorem dX7_play_29 : decode cX7_play 29 = .ok (.ireturn, 1) := by decide +kernel
theorem dX7_play_30 : decode cX7_play 30 = .ok (.aload_n 0, 1) := by decide +kernel
theorem dX7_play_31 : decode cX7_play 31 = .ok (.getfield 57, 3) := by decide +kernel
theorem dX7_play_34 : decode cX7_play 34 = .ok (.aload_n 0, 1) := by decide +kernel
theorem dX7_play_35 : decode cX7_play 35 = .ok (.getfield 26, 3) := by decide +kernel
theorem dX7_play_38 : decode cX7_play 38 = .ok (.iconst 0, 1) := by decide +kernel
theorem dX7_play_39 : decode cX7_play 39 = .ok (.iload_n 1, 1) := by decide +kernel
theorem dX7_play_40 : decode cX7_play 40 = .ok (.iconst 0, 1) := by decide +kernel
theorem dX7_play_41 : decode cX7_play 41 = .ok (.invokevirtual 187, 3) := by decide +kernel
theorem dX7_play_44 : decode cX7_play 44 = .ok (.aload_n 0, 1) := by decide +kernel
theorem dX7_play_45 : decode cX7_play 45 = .ok (.getfield 57, 3) := by decide +kernel
theorem dX7_play_48 : decode cX7_play 48 = .ok (.iconst 0, 1) := by decide +kernel
theorem dX7_play_49 : decode cX7_play 49 = .ok (.invokestatic 195, 3) := by decide +kernel
theorem dX7_play_52 : decode cX7_play 52 = .ok (.istore_n 3, 1) := by decide +kernel
theorem dX7_play_53 : decode cX7_play 53 = .ok (.iload_n 2, 1) := by decide +kernel
theorem dX7_play_54 : decode cX7_play 54 = .ok (.ifCond .ne 11, 3) := by decide +kernel
theorem dX7_play_57 : decode cX7_play 57 = .ok (.iload_n 3, 1) := by decide +kernel
theorem dX7_play_58 : decode cX7_play 58 = .ok (.sipush 200, 3) := by decide +kernel
theorem dX7_play_61 : decode cX7_play 61 = .ok (.iadd, 1) := by decide +kernel
theorem dX7_play_62 : decode cX7_play 62 = .ok (.goto 14, 3) := by decide +kernel
theorem dX7_play_65 : decode cX7_play 65 = .ok (.aload_n 0, 1) := by decide +kernel
theorem dX7_play_66 : decode cX7_play 66 = .ok (.getfield 57, 3) := by decide +kernel
theorem dX7_play_69 : decode cX7_play 69 = .ok (.getfield 179, 3) := by decide +kernel
theorem dX7_play_72 : decode cX7_play 72 = .ok (.iconst 0, 1) := by decide +kernel
theorem dX7_play_73 : decode cX7_play 73 = .ok (.invokestatic 183, 3) := by decide +kernel
theorem dX7_play_76 : decode cX7_play 76 = .ok (.ireturn, 1) := by decide +kernel
theorem dX7_kind_0 : decode cX7_kind 0 = .ok (.iload_n 1, 1) := by decide +kernel
theorem dX7_kind_1 : decode cX7_kind 1 = .ok (.invokestatic 94, 3) := by decide +kernel
theorem dX7_kind_4 : decode cX7_kind 4 = .ok (.ifCond .eq 22, 3) := by decide +kernel
theorem dX7_kind_7 : decode cX7_kind 7 = .ok (.iload_n 2, 1) := by decide +kernel
theorem dX7_kind_8 : decode cX7_kind 8 = .ok (.iconst 1, 1) := by decide +kernel
theorem dX7_kind_9 : decode cX7_kind 9 = .ok (.bipush 24, 2) := by decide +kernel
theorem dX7_kind_11 : decode cX7_kind 11 = .ok (.invokestatic 83, 3) := by decide +kernel
theorem dX7_kind_14 : decode cX7_kind 14 = .ok (.ifCond .eq 12, 3) := by decide +kernel
theorem dX7_kind_17 : decode cX7_kind 17 = .ok (.iload_n 3, 1) := by decide +kernel
theorem dX7_kind_18 : decode cX7_kind 18 = .ok (.iconst 0, 1) := by decide +kernel
theorem dX7_kind_19 : decode cX7_kind 19 = .ok (.iconst 1, 1) := by decide +kernel
theorem dX7_kind_20 : decode cX7_kind 20 = .ok (.invokestatic 83, 3) := by decide +kernel
theorem dX7_kind_23 : decode cX7_kind 23 = .ok (.ifCond .ne 5, 3) := by decide +kernel
theorem dX7_kind_26 : decode cX7_kind 26 = .ok (.iconst (-1), 1) := by decide +kernel
theorem dX7_kind_27 : decode cX7_kind 27 = .ok (.ireturn, 1) := by decide +kernel
theorem dX7_kind_28 : decode cX7_kind 28 = .ok (.aload_n 0, 1) := by decide +kernel
theorem dX7_kind_29 : decode cX7_kind 29 = .ok (.invokevirtual 141, 3) := by decide +kernel
theorem dX7_kind_32 : decode cX7_kind 32 = .ok (.ifCond .eq 6, 3) := by decide +kernel
theorem dX7_kind_35 : decode cX7_kind 35 = .ok (.bipush (-2), 2) := by decide +kernel
theorem dX7_kind_37 : decode cX7_kind 37 = .ok (.ireturn, 1) := by decide +kernel
theorem dX7_kind_38 : decode cX7_kind 38 = .ok (.iconst 0, 1) := by decide +kernel
theorem dX7_kind_39 : decode cX7_kind 39 = .ok (.istore 4, 2) := by decide +kernel
theorem dX7_kind_41 : decode cX7_kind 41 = .ok (.iconst (-1), 1) := by decide +kernel
theorem dX7_kind_42 : decode cX7_kind 42 = .ok (.istore 5, 2) := by decide +kernel
theorem dX7_kind_44 : decode cX7_kind 44 = .ok (.iconst 0, 1) := by decide +kernel
theorem dX7_kind_45 : decode cX7_kind 45 = .ok (.istore 6, 2) := by decide +kernel
theorem dX7_kind_47 : decode cX7_kind 47 = .ok (.iload 6, 2) := by decide +kernel
theorem dX7_kind_49 : decode cX7_kind 49 = .ok (.iconst 5, 1) := by decide +kernel
theorem dX7_kind_50 : decode cX7_kind 50 = .ok (.if_icmp .ge 73, 3) := by decide +kernel
theorem dX7_kind_53 : decode cX7_kind 53 = .ok (.aload_n 0, 1) := by decide +kernel
theorem dX7_kind_54 : decode cX7_kind 54 = .ok (.getfield 30, 3) := by decide +kernel
theorem dX7_kind_57 : decode cX7_kind 57 = .ok (.aload_n 0, 1) := by decide +kernel
theorem dX7_kind_58 : decode cX7_kind 58 = .ok (.getfield 26, 3) := by decide +kernel
theorem dX7_kind_61 : decode cX7_kind 61 = .ok (.invokevirtual 170, 3) := by decide +kernel
theorem dX7_kind_64 : decode cX7_kind 64 = .ok (.aload_n 0, 1) := by decide +kernel
theorem dX7_kind_65 : decode cX7_kind 65 = .ok (.getfield 30, 3) := by decide +kernel
theorem dX7_kind_68 : decode cX7_kind 68 = .ok (.iload_n 1, 1) := by decide +kernel
theorem dX7_kind_69 : decode cX7_kind 69 = .ok (.invokevirtual 98, 3) := by decide +kernel
theorem dX7_kind_72 : decode cX7_kind 72 = .ok (.iload 6, 2) := by decide +kernel
theorem dX7_kind_74 : decode cX7_kind 74 = .ok (.putfield 109, 3) := by decide +kernel
theorem dX7_kind_77 : decode cX7_kind 77 = .ok (.aload_n 0, 1) := by decide +kernel
theorem dX7_kind_78 : decode cX7_kind 78 = .ok (.getfield 30, 3) := by decide +kernel
theorem dX7_kind_81 : decode cX7_kind 81 = .ok (.aload_n 0, 1) := by decide +kernel
theorem dX7_kind_82 : decode cX7_kind 82 = .ok (.getfield 19, 3) := by decide +kernel
theorem dX7_kind_85 : decode cX7_kind 85 = .ok (.iload_n 2, 1) := by decide +kernel
theorem dX7_kind_86 : decode cX7_kind 86 = .ok (.invokevirtual 160, 3) := by decide +kernel
theorem dX7_kind_89 : decode cX7_kind 89 = .ok (.aload_n 0, 1) := by decide +kernel
theorem dX7_kind_90 : decode cX7_kind 90 = .ok (.getfield 30, 3) := by decide +kernel
theorem dX7_kind_93 : decode cX7_kind 93 = .ok (.iload_n 1, 1) := by decide +kernel
theorem dX7_kind_94 : decode cX7_kind 94 = .ok (.invokevirtual 98, 3) := by decide +kernel
theorem dX7_kind_97 : decode cX7_kind 97 = .ok (.getfield 114, 3) := by decide +kernel
theorem dX7_kind_100 : decode cX7_kind 100 = .ok (.istore 7, 2) := by decide +kernel
theorem dX7_kind_102 : decode cX7_kind 102 = .ok (.iload 7, 2) := by decide +kernel
theorem dX7_kind_104 : decode cX7_kind 104 = .ok (.iload 5, 2) := by decide +kernel
theorem dX7_kind_106 : decode cX7_kind 106 = .ok (.if_icmp .le 11, 3) := by decide +kernel
theorem dX7_kind_109 : decode cX7_kind 109 = .ok (.iload 7, 2) := by decide +kernel
theorem dX7_kind_111 : decode cX7_kind 111 = .ok (.istore 5, 2) := by decide +kernel
theorem dX7_kind_113 : decode cX7_kind 113 = .ok (.iload 6, 2) := by decide +kernel
theorem dX7_kind_115 : decode cX7_kind 115 = .ok (.istore 4, 2) := by decide +kernel
theorem dX7_kind_117 : decode cX7_kind 117 = .ok (.iinc 6 1, 3) := by decide +kernel
theorem dX7_kind_120 : decode cX7_kind 120 = .ok (.goto (-73), 3) := by decide +kernel
theorem dX7_kind_123 : decode cX7_kind 123 = .ok (.iload_n 3, 1) := by decide +kernel
theorem dX7_kind_124 : decode cX7_kind 124 = .ok (.ifCond .ne 8, 3) := by decide +kernel
theorem dX7_kind_127 : decode cX7_kind 127 = .ok (.iload 4, 2) := by decide +kernel
theorem dX7_kind_129 : decode cX7_kind 129 = .ok (.goto 5, 3) := by decide +kernel
theorem dX7_kind_132 : decode cX7_kind 132 = .ok (.iload 5, 2) := by decide +kernel
theorem dX7_kind_134 : decode cX7_kind 134 = .ok (.ireturn, 1) := by decide +kernel
theorem dX7_see_0 : decode cX7_see 0 = .ok (.iload_n 1, 1) := by decide +kernel
theorem dX7_see_1 : decode cX7_see 1 = .ok (.invokestatic 94, 3) := by decide +kernel
theorem dX7_see_4 : decode cX7_see 4 = .ok (.ifCond .eq 23, 3) := by decide +kernel
theorem dX7_see_7 : decode cX7_see 7 = .ok (.iload_n 2, 1) := by decide +kernel
theorem dX7_see_8 : decode cX7_see 8 = .ok (.iconst 1, 1) := by decide +kernel
theorem dX7_see_9 : decode cX7_see 9 = .ok (.bipush 24, 2) := by decide +kernel
theorem dX7_see_11 : decode cX7_see 11 = .ok (.invokestatic 83, 3) := by decide +kernel
theorem dX7_see_14 : decode cX7_see 14 = .ok (.ifCond .eq 13, 3) := by decide +kernel
theorem dX7_see_17 : decode cX7_see 17 = .ok (.iload_n 3, 1) := by decide +kernel
theorem dX7_see_18 : decode cX7_see 18 = .ok (.iconst 0, 1) := by decide +kernel
theorem dX7_see_19 : decode cX7_see 19 = .ok (.bipush 60, 2) := by decide +kernel
theorem dX7_see_21 : decode cX7_see 21 = .ok (.invokestatic 83, 3) := by decide +kernel
theorem dX7_see_24 : decode cX7_see 24 = .ok (.ifCond .ne 5, 3) := by decide +kernel
theorem dX7_see_27 : decode cX7_see 27 = .ok (.iconst (-1), 1) := by decide +kernel
theorem dX7_see_28 : decode cX7_see 28 = .ok (.ireturn, 1) := by decide +kernel
theorem dX7_see_29 : decode cX7_see 29 = .ok (.aload_n 0, 1) := by decide +kernel
theorem dX7_see_30 : decode cX7_see 30 = .ok (.getfield 48, 3) := by decide +kernel
theorem dX7_see_33 : decode cX7_see 33 = .ok (.getfield 91, 3) := by decide +kernel
theorem dX7_see_36 : decode cX7_see 36 = .ok (.bipush 6, 2) := by decide +kernel
theorem dX7_see_38 : decode cX7_see 38 = .ok (.if_icmp .lt 6, 3) := by decide +kernel
theorem dX7_see_41 : decode cX7_see 41 = .ok (.bipush (-3), 2) := by decide +kernel
theorem dX7_see_43 : decode cX7_see 43 = .ok (.ireturn, 1) := by decide +kernel
theorem dX7_see_44 : decode cX7_see 44 = .ok (.aload_n 0, 1) := by decide +kernel
theorem dX7_see_45 : decode cX7_see 45 = .ok (.getfield 48, 3) := by decide +kernel
theorem dX7_see_48 : decode cX7_see 48 = .ok (.iload_n 1, 1) := by decide +kernel
theorem dX7_see_49 : decode cX7_see 49 = .ok (.iload_n 2, 1) := by decide +kernel
theorem dX7_see_50 : decode cX7_see 50 = .ok (.iload_n 3, 1) := by decide +kernel
theorem dX7_see_51 : decode cX7_see 51 = .ok (.invokevirtual 199, 3) := by decide +kernel
theorem dX7_see_54 : decode cX7_see 54 = .ok (.aload_n 0, 1) := by decide +kernel
theorem dX7_see_55 : decode cX7_see 55 = .ok (.getfield 48, 3) := by decide +kernel
theorem dX7_see_58 : decode cX7_see 58 = .ok (.getfield 91, 3) := by decide +kernel
theorem dX7_see_61 : decode cX7_see 61 = .ok (.ireturn, 1) := by decide +kernel
theorem dX7_forget_0 : decode cX7_forget 0 = .ok (.aload_n 0, 1) := by decide +kernel
theorem dX7_forget_1 : decode cX7_forget 1 = .ok (.getfield 48, 3) := by decide +kernel
theorem dX7_forget_4 : decode cX7_forget 4 = .ok (.getfield 91, 3) := by decide +kernel
theorem dX7_forget_7 : decode cX7_forget 7 = .ok (.istore_n 1, 1) := by decide +kernel
theorem dX7_forget_8 : decode cX7_forget 8 = .ok (.aload_n 0, 1) := by decide +kernel
theorem dX7_forget_9 : decode cX7_forget 9 = .ok (.getfield 48, 3) := by decide +kernel
theorem dX7_forget_12 : decode cX7_forget 12 = .ok (.iconst 0, 1) := by decide +kernel
theorem dX7_forget_13 : decode cX7_forget 13 = .ok (.putfield 91, 3) := by decide +kernel
theorem dX7_forget_16 : decode cX7_forget 16 = .ok (.iload_n 1, 1) := by decide +kernel
theorem dX7_forget_17 : decode cX7_forget 17 = .ok (.ireturn, 1) := by decide +kernel
theorem dX7_did_0 : decode cX7_did 0 = .ok (.iload_n 1, 1) := by decide +kernel
theorem dX7_did_1 : decode cX7_did 1 = .ok (.invokestatic 94, 3) := by decide +kernel
theorem dX7_did_4 : decode cX7_did 4 = .ok (.ifCond .ne 5, 3) := by decide +kernel
theorem dX7_did_7 : decode cX7_did 7 = .ok (.iconst (-1), 1) := by decide +kernel
theorem dX7_did_8 : decode cX7_did 8 = .ok (.ireturn, 1) := by decide +kernel
theorem dX7_did_9 : decode cX7_did 9 = .ok (.aload_n 0, 1) := by decide +kernel
theorem dX7_did_10 : decode cX7_did 10 = .ok (.invokevirtual 141, 3) := by decide +kernel
theorem dX7_did_13 : decode cX7_did 13 = .ok (.ifCond .eq 6, 3) := by decide +kernel
theorem dX7_did_16 : decode cX7_did 16 = .ok (.bipush (-2), 2) := by decide +kernel
theorem dX7_did_18 : decode cX7_did 18 = .ok (.ireturn, 1) := by decide +kernel
theorem dX7_did_19 : decode cX7_did 19 = .ok (.iconst 0, 1) := by decide +kernel
theorem dX7_did_20 : decode cX7_did 20 = .ok (.istore_n 2, 1) := by decide +kernel
theorem dX7_did_21 : decode cX7_did 21 = .ok (.iconst 0, 1) := by decide +kernel
theorem dX7_did_22 : decode cX7_did 22 = .ok (.istore_n 3, 1) := by decide +kernel
theorem dX7_did_23 : decode cX7_did 23 = .ok (.iload_n 3, 1) := by decide +kernel
theorem dX7_did_24 : decode cX7_did 24 = .ok (.iconst 5, 1) := by decide +kernel
theorem dX7_did_25 : decode cX7_did 25 = .ok (.if_icmp .ge 35, 3) := by decide +kernel
theorem dX7_did_28 : decode cX7_did 28 = .ok (.aload_n 0, 1) := by decide +kernel
theorem dX7_did_29 : decode cX7_did 29 = .ok (.getfield 30, 3) := by decide +kernel
theorem dX7_did_32 : decode cX7_did 32 = .ok (.aload_n 0, 1) := by decide +kernel
theorem dX7_did_33 : decode cX7_did 33 = .ok (.getfield 26, 3) := by decide +kernel
theorem dX7_did_36 : decode cX7_did 36 = .ok (.invokevirtual 170, 3) := by decide +kernel
theorem dX7_did_39 : decode cX7_did 39 = .ok (.aload_n 0, 1) := by decide +kernel
theorem dX7_did_40 : decode cX7_did 40 = .ok (.iload_n 1, 1) := by decide +kernel
theorem dX7_did_41 : decode cX7_did 41 = .ok (.iload_n 3, 1) := by decide +kernel
theorem dX7_did_42 : decode cX7_did 42 = .ok (.invokevirtual 202, 3) := by decide +kernel
theorem dX7_did_45 : decode cX7_did 45 = .ok (.ifCond .eq 9, 3) := by decide +kernel
theorem dX7_did_48 : decode cX7_did 48 = .ok (.iload_n 2, 1) := by decide +kernel
theorem dX7_did_49 : decode cX7_did 49 = .ok (.iconst 1, 1) := by decide +kernel
theorem dX7_did_50 : decode cX7_did 50 = .ok (.iload_n 3, 1) := by decide +kernel
theorem dX7_did_51 : decode cX7_did 51 = .ok (.ishl, 1) := by decide +kernel
theorem dX7_did_52 : decode cX7_did 52 = .ok (.ior, 1) := by decide +kernel
theorem dX7_did_53 : decode cX7_did 53 = .ok (.istore_n 2, 1) := by decide +kernel
theorem dX7_did_54 : decode cX7_did 54 = .ok (.iinc 3 1, 3) := by decide +kernel
theorem dX7_did_57 : decode cX7_did 57 = .ok (.goto (-34), 3) := by decide +kernel
theorem dX7_did_60 : decode cX7_did 60 = .ok (.iload_n 2, 1) := by decide +kernel
theorem dX7_did_61 : decode cX7_did 61 = .ok (.ireturn, 1) := by decide +kernel
theorem dX7_was_0 : decode cX7_was 0 = .ok (.iload_n 1, 1) := by decide +kernel
theorem dX7_was_1 : decode cX7_was 1 = .ok (.invokestatic 94, 3) := by decide +kernel
theorem dX7_was_4 : decode cX7_was 4 = .ok (.ifCond .ne 5, 3) := by decide +kernel
theorem dX7_was_7 : decode cX7_was 7 = .ok (.iconst (-1), 1) := by decide +kernel
theorem dX7_was_8 : decode cX7_was 8 = .ok (.ireturn, 1) := by decide +kernel
theorem dX7_was_9 : decode cX7_was 9 = .ok (.aload_n 0, 1) := by decide +kernel
theorem dX7_was_10 : decode cX7_was 10 = .ok (.invokevirtual 141, 3) := by decide +kernel
theorem dX7_was_13 : decode cX7_was 13 = .ok (.ifCond .eq 6, 3) := by decide +kernel
theorem dX7_was_16 : decode cX7_was 16 = .ok (.bipush (-2), 2) := by decide +kernel
theorem dX7_was_18 : decode cX7_was 18 = .ok (.ireturn, 1) := by decide +kernel
theorem dX7_was_19 : decode cX7_was 19 = .ok (.iconst 0, 1) := by decide +kernel
theorem dX7_was_20 : decode cX7_was 20 = .ok (.istore_n 2, 1) := by decide +kernel
theorem dX7_was_21 : decode cX7_was 21 = .ok (.iconst 0, 1) := by decide +kernel
theorem dX7_was_22 : decode cX7_was 22 = .ok (.istore_n 3, 1) := by decide +kernel
theorem dX7_was_23 : decode cX7_was 23 = .ok (.iload_n 3, 1) := by decide +kernel
theorem dX7_was_24 : decode cX7_was 24 = .ok (.iconst 5, 1) := by decide +kernel
theorem dX7_was_25 : decode cX7_was 25 = .ok (.if_icmp .ge 47, 3) := by decide +kernel
theorem dX7_was_28 : decode cX7_was 28 = .ok (.aload_n 0, 1) := by decide +kernel
theorem dX7_was_29 : decode cX7_was 29 = .ok (.getfield 30, 3) := by decide +kernel
theorem dX7_was_32 : decode cX7_was 32 = .ok (.aload_n 0, 1) := by decide +kernel
theorem dX7_was_33 : decode cX7_was 33 = .ok (.getfield 26, 3) := by decide +kernel
theorem dX7_was_36 : decode cX7_was 36 = .ok (.invokevirtual 170, 3) := by decide +kernel
theorem dX7_was_39 : decode cX7_was 39 = .ok (.aload_n 0, 1) := by decide +kernel
theorem dX7_was_40 : decode cX7_was 40 = .ok (.getfield 30, 3) := by decide +kernel
theorem dX7_was_43 : decode cX7_was 43 = .ok (.iload_n 1, 1) := by decide +kernel
theorem dX7_was_44 : decode cX7_was 44 = .ok (.invokevirtual 98, 3) := by decide +kernel
theorem dX7_was_47 : decode cX7_was 47 = .ok (.iload_n 3, 1) := by decide +kernel
theorem dX7_was_48 : decode cX7_was 48 = .ok (.putfield 109, 3) := by decide +kernel
theorem dX7_was_51 : decode cX7_was 51 = .ok (.aload_n 0, 1) := by decide +kernel
theorem dX7_was_52 : decode cX7_was 52 = .ok (.iload_n 1, 1) := by decide +kernel
theorem dX7_was_53 : decode cX7_was 53 = .ok (.iconst 0, 1) := by decide +kernel
theorem dX7_was_54 : decode cX7_was 54 = .ok (.invokevirtual 202, 3) := by decide +kernel
theorem dX7_was_57 : decode cX7_was 57 = .ok (.ifCond .eq 9, 3) := by decide +kernel
theorem dX7_was_60 : decode cX7_was 60 = .ok (.iload_n 2, 1) := by decide +kernel
theorem dX7_was_61 : decode cX7_was 61 = .ok (.iconst 1, 1) := by decide +kernel
theorem dX7_was_62 : decode cX7_was 62 = .ok (.iload_n 3, 1) := by decide +kernel
theorem dX7_was_63 : decode cX7_was 63 = .ok (.ishl, 1) := by decide +kernel
theorem dX7_was_64 : decode cX7_was 64 = .ok (.ior, 1) := by decide +kernel
theorem dX7_was_65 : decode cX7_was 65 = .ok (.istore_n 2, 1) := by decide +kernel
theorem dX7_was_66 : decode cX7_was 66 = .ok (.iinc 3 1, 3) := by decide +kernel
theorem dX7_was_69 : decode cX7_was 69 = .ok (.goto (-46), 3) := by decide +kernel
theorem dX7_was_72 : decode cX7_was 72 = .ok (.iload_n 2, 1) := by decide +kernel
theorem dX7_was_73 : decode cX7_was 73 = .ok (.ireturn, 1) := by decide +kernel
theorem dX7_drought_0 : decode cX7_drought 0 = .ok (.iload_n 1, 1) := by decide +kernel
theorem dX7_drought_1 : decode cX7_drought 1 = .ok (.invokestatic 94, 3) := by decide +kernel
theorem dX7_drought_4 : decode cX7_drought 4 = .ok (.ifCond .eq 33, 3) := by decide +kernel
theorem dX7_drought_7 : decode cX7_drought 7 = .ok (.iload_n 2, 1) := by decide +kernel
theorem dX7_drought_8 : decode cX7_drought 8 = .ok (.iconst 0, 1) := by decide +kernel
theorem dX7_drought_9 : decode cX7_drought 9 = .ok (.bipush 6, 2) := by decide +kernel
theorem dX7_drought_11 : decode cX7_drought 11 = .ok (.invokestatic 83, 3) := by decide +kernel
theorem dX7_drought_14 : decode cX7_drought 14 = .ok (.ifCond .eq 23, 3) := by decide +kernel
theorem dX7_drought_17 : decode cX7_drought 17 = .ok (.iload_n 3, 1) := by decide +kernel
theorem dX7_drought_18 : decode cX7_drought 18 = .ok (.iconst 0, 1) := by decide +kernel
theorem dX7_drought_19 : decode cX7_drought 19 = .ok (.bipush 10, 2) := by decide +kernel
theorem dX7_drought_21 : decode cX7_drought 21 = .ok (.invokestatic 83, 3) := by decide +kernel
theorem dX7_drought_24 : decode cX7_drought 24 = .ok (.ifCond .eq 13, 3) := by decide +kernel
theorem dX7_drought_27 : decode cX7_drought 27 = .ok (.iload 4, 2) := by decide +kernel
theorem dX7_drought_29 : decode cX7_drought 29 = .ok (.iconst 0, 1) := by decide +kernel
theorem dX7_drought_30 : decode cX7_drought 30 = .ok (.iconst 1, 1) := by decide +kernel
theorem dX7_drought_31 : decode cX7_drought 31 = .ok (.invokestatic 83, 3) := by decide +kernel
theorem dX7_drought_34 : decode cX7_drought 34 = .ok (.ifCond .ne 5, 3) := by decide +kernel
theorem dX7_drought_37 : decode cX7_drought 37 = .ok (.iconst (-1), 1) := by decide +kernel
theorem dX7_drought_38 : decode cX7_drought 38 = .ok (.ireturn, 1) := by decide +kernel
theorem dX7_drought_39 : decode cX7_drought 39 = .ok (.iconst 0, 1) := by decide +kernel
theorem dX7_drought_40 : decode cX7_drought 40 = .ok (.istore 5, 2) := by decide +kernel
theorem dX7_drought_42 : decode cX7_drought 42 = .ok (.iconst 1, 1) := by decide +kernel
theorem dX7_drought_43 : decode cX7_drought 43 = .ok (.istore 6, 2) := by decide +kernel
theorem dX7_drought_45 : decode cX7_drought 45 = .ok (.iconst 0, 1) := by decide +kernel
theorem dX7_drought_46 : decode cX7_drought 46 = .ok (.istore 7, 2) := by decide +kernel
theorem dX7_drought_48 : decode cX7_drought 48 = .ok (.iload 7, 2) := by decide +kernel
theorem dX7_drought_50 : decode cX7_drought 50 = .ok (.iload_n 2, 1) := by decide +kernel
theorem dX7_drought_51 : decode cX7_drought 51 = .ok (.if_icmp .ge 16, 3) := by decide +kernel
theorem dX7_drought_54 : decode cX7_drought 54 = .ok (.iload 6, 2) := by decide +kernel
theorem dX7_drought_56 : decode cX7_drought 56 = .ok (.bipush 10, 2) := by decide +kernel
theorem dX7_drought_58 : decode cX7_drought 58 = .ok (.imul, 1) := by decide +kernel
theorem dX7_drought_59 : decode cX7_drought 59 = .ok (.istore 6, 2) := by decide +kernel
theorem dX7_drought_61 : decode cX7_drought 61 = .ok (.iinc 7 1, 3) := by decide +kernel
theorem dX7_drought_64 : decode cX7_drought 64 = .ok (.goto (-16), 3) := by decide +kernel
theorem dX7_drought_67 : decode cX7_drought 67 = .ok (.iconst 0, 1) := by decide +kernel
theorem dX7_drought_68 : decode cX7_drought 68 = .ok (.istore 7, 2) := by decide +kernel
theorem dX7_drought_70 : decode cX7_drought 70 = .ok (.iload 7, 2) := by decide +kernel
theorem dX7_drought_72 : decode cX7_drought 72 = .ok (.iconst 1, 1) := by decide +kernel
theorem dX7_drought_73 : decode cX7_drought 73 = .ok (.iload_n 2, 1) := by decide +kernel
theorem dX7_drought_74 : decode cX7_drought 74 = .ok (.ishl, 1) := by decide +kernel
theorem dX7_drought_75 : decode cX7_drought 75 = .ok (.if_icmp .ge 41, 3) := by decide +kernel
theorem dX7_drought_78 : decode cX7_drought 78 = .ok (.aload_n 0, 1) := by decide +kernel
theorem dX7_drought_79 : decode cX7_drought 79 = .ok (.iload 7, 2) := by decide +kernel
theorem dX7_drought_81 : decode cX7_drought 81 = .ok (.iload_n 2, 1) := by decide +kernel
theorem dX7_drought_82 : decode cX7_drought 82 = .ok (.iload_n 3, 1) := by decide +kernel
theorem dX7_drought_83 : decode cX7_drought 83 = .ok (.invokevirtual 206, 3) := by decide +kernel
theorem dX7_drought_86 : decode cX7_drought 86 = .ok (.istore 8, 2) := by decide +kernel
theorem dX7_drought_88 : decode cX7_drought 88 = .ok (.aload_n 0, 1) := by decide +kernel
theorem dX7_drought_89 : decode cX7_drought 89 = .ok (.getfield 30, 3) := by decide +kernel
theorem dX7_drought_92 : decode cX7_drought 92 = .ok (.aload_n 0, 1) := by decide +kernel
theorem dX7_drought_93 : decode cX7_drought 93 = .ok (.getfield 19, 3) := by decide +kernel
theorem dX7_drought_96 : decode cX7_drought 96 = .ok (.invokevirtual 210, 3) := by decide +kernel
theorem dX7_drought_99 : decode cX7_drought 99 = .ok (.iload_n 1, 1) := by decide +kernel
theorem dX7_drought_100 : decode cX7_drought 100 = .ok (.if_icmp .ne 10, 3) := by decide +kernel
theorem dX7_drought_103 : decode cX7_drought 103 = .ok (.iload 5, 2) := by decide +kernel
theorem dX7_drought_105 : decode cX7_drought 105 = .ok (.iload 8, 2) := by decide +kernel
theorem dX7_drought_107 : decode cX7_drought 107 = .ok (.iadd, 1) := by decide +kernel
theorem dX7_drought_108 : decode cX7_drought 108 = .ok (.istore 5, 2) := by decide +kernel
theorem dX7_drought_110 : decode cX7_drought 110 = .ok (.iinc 7 1, 3) := by decide +kernel
theorem dX7_drought_113 : decode cX7_drought 113 = .ok (.goto (-43), 3) := by decide +kernel
theorem dX7_drought_116 : decode cX7_drought 116 = .ok (.iload 5, 2) := by decide +kernel
theorem dX7_drought_118 : decode cX7_drought 118 = .ok (.iload 6, 2) := by decide +kernel
theorem dX7_drought_120 : decode cX7_drought 120 = .ok (.invokestatic 214, 3) := by decide +kernel
theorem dX7_drought_123 : decode cX7_drought 123 = .ok (.istore 7, 2) := by decide +kernel
theorem dX7_drought_125 : decode cX7_drought 125 = .ok (.iload 7, 2) := by decide +kernel
theorem dX7_drought_127 : decode cX7_drought 127 = .ok (.ifCond .ne 6, 3) := by decide +kernel
theorem dX7_drought_130 : decode cX7_drought 130 = .ok (.bipush (-4), 2) := by decide +kernel
theorem dX7_drought_132 : decode cX7_drought 132 = .ok (.ireturn, 1) := by decide +kernel
theorem dX7_drought_133 : decode cX7_drought 133 = .ok (.iload 4, 2) := by decide +kernel
theorem dX7_drought_135 : decode cX7_drought 135 = .ok (.ifCond .ne 8, 3) := by decide +kernel
theorem dX7_drought_138 : decode cX7_drought 138 = .ok (.iload 5, 2) := by decide +kernel
theorem dX7_drought_140 : decode cX7_drought 140 = .ok (.goto 5, 3) := by decide +kernel
theorem dX7_drought_143 : decode cX7_drought 143 = .ok (.iload 6, 2) := by decide +kernel
theorem dX7_drought_145 : decode cX7_drought 145 = .ok (.iload 7, 2) := by decide +kernel
theorem dX7_drought_147 : decode cX7_drought 147 = .ok (.idiv, 1) := by decide +kernel
theorem dX7_drought_148 : decode cX7_drought 148 = .ok (.ireturn, 1) := by decide +kernel
theorem dX7_year_0 : decode cX7_year 0 = .ok (.iload_n 1, 1) := by decide +kernel
theorem dX7_year_1 : decode cX7_year 1 = .ok (.iconst 0, 1) := by decide +kernel
theorem dX7_year_2 : decode cX7_year 2 = .ok (.sipush 9999, 3) := by decide +kernel
theorem dX7_year_5 : decode cX7_year 5 = .ok (.invokestatic 83, 3) := by decide +kernel
theorem dX7_year_8 : decode cX7_year 8 = .ok (.ifCond .eq 22, 3) := by decide +kernel
theorem dX7_year_11 : decode cX7_year 11 = .ok (.iload_n 2, 1) := by decide +kernel
theorem dX7_year_12 : decode cX7_year 12 = .ok (.iconst 1, 1) := by decide +kernel
theorem dX7_year_13 : decode cX7_year 13 = .ok (.bipush 40, 2) := by decide +kernel
theorem dX7_year_15 : decode cX7_year 15 = .ok (.invokestatic 83, 3) := by decide +kernel
theorem dX7_year_18 : decode cX7_year 18 = .ok (.ifCond .eq 12, 3) := by decide +kernel
theorem dX7_year_21 : decode cX7_year 21 = .ok (.iload_n 3, 1) := by decide +kernel
theorem dX7_year_22 : decode cX7_year 22 = .ok (.iconst 0, 1) := by decide +kernel
theorem dX7_year_23 : decode cX7_year 23 = .ok (.iconst 2, 1) := by decide +kernel
theorem dX7_year_24 : decode cX7_year 24 = .ok (.invokestatic 83, 3) := by decide +kernel
theorem dX7_year_27 : decode cX7_year 27 = .ok (.ifCond .ne 5, 3) := by decide +kernel
theorem dX7_year_30 : decode cX7_year 30 = .ok (.iconst (-1), 1) := by decide +kernel
theorem dX7_year_31 : decode cX7_year 31 = .ok (.ireturn, 1) := by decide +kernel
theorem dX7_year_32 : decode cX7_year 32 = .ok (.aload_n 0, 1) := by decide +kernel
theorem dX7_year_33 : decode cX7_year 33 = .ok (.getfield 30, 3) := by decide +kernel
theorem dX7_year_36 : decode cX7_year 36 = .ok (.aload_n 0, 1) := by decide +kernel
theorem dX7_year_37 : decode cX7_year 37 = .ok (.getfield 26, 3) := by decide +kernel
theorem dX7_year_40 : decode cX7_year 40 = .ok (.invokevirtual 170, 3) := by decide +kernel
theorem dX7_year_43 : decode cX7_year 43 = .ok (.iconst 0, 1) := by decide +kernel
theorem dX7_year_44 : decode cX7_year 44 = .ok (.istore 4, 2) := by decide +kernel
theorem dX7_year_46 : decode cX7_year 46 = .ok (.iload 4, 2) := by decide +kernel
theorem dX7_year_48 : decode cX7_year 48 = .ok (.iload_n 2, 1) := by decide +kernel
theorem dX7_year_49 : decode cX7_year 49 = .ok (.if_icmp .ge 39, 3) := by decide +kernel
theorem dX7_year_52 : decode cX7_year 52 = .ok (.iload_n 1, 1) := by decide +kernel
theorem dX7_year_53 : decode cX7_year 53 = .ok (.iload 4, 2) := by decide +kernel
theorem dX7_year_55 : decode cX7_year 55 = .ok (.invokestatic 218, 3) := by decide +kernel
theorem dX7_year_58 : decode cX7_year 58 = .ok (.istore 5, 2) := by decide +kernel
theorem dX7_year_60 : decode cX7_year 60 = .ok (.aload_n 0, 1) := by decide +kernel
theorem dX7_year_61 : decode cX7_year 61 = .ok (.getfield 30, 3) := by decide +kernel
theorem dX7_year_64 : decode cX7_year 64 = .ok (.aload_n 0, 1) := by decide +kernel
theorem dX7_year_65 : decode cX7_year 65 = .ok (.getfield 19, 3) := by decide +kernel
theorem dX7_year_68 : decode cX7_year 68 = .ok (.iload 5, 2) := by decide +kernel
theorem dX7_year_70 : decode cX7_year 70 = .ok (.iconst 5, 1) := by decide +kernel
theorem dX7_year_71 : decode cX7_year 71 = .ok (.irem, 1) := by decide +kernel
theorem dX7_year_72 : decode cX7_year 72 = .ok (.iload 5, 2) := by decide +kernel
theorem dX7_year_74 : decode cX7_year 74 = .ok (.bipush 8, 2) := by decide +kernel
theorem dX7_year_76 : decode cX7_year 76 = .ok (.idiv, 1) := by decide +kernel
theorem dX7_year_77 : decode cX7_year 77 = .ok (.iconst 5, 1) := by decide +kernel
theorem dX7_year_78 : decode cX7_year 78 = .ok (.irem, 1) := by decide +kernel
theorem dX7_year_79 : decode cX7_year 79 = .ok (.invokevirtual 149, 3) := by decide +kernel
theorem dX7_year_82 : decode cX7_year 82 = .ok (.iinc 4 1, 3) := by decide +kernel
theorem dX7_year_85 : decode cX7_year 85 = .ok (.goto (-39), 3) := by decide +kernel
theorem dX7_year_88 : decode cX7_year 88 = .ok (.aload_n 0, 1) := by decide +kernel
theorem dX7_year_89 : decode cX7_year 89 = .ok (.iload_n 3, 1) := by decide +kernel
theorem dX7_year_90 : decode cX7_year 90 = .ok (.invokevirtual 173, 3) := by decide +kernel
theorem dX7_year_93 : decode cX7_year 93 = .ok (.ireturn, 1) := by decide +kernel
theorem dX7_keep_0 : decode cX7_keep 0 = .ok (.aload_n 0, 1) := by decide +kernel
theorem dX7_keep_1 : decode cX7_keep 1 = .ok (.getfield 42, 3) := by decide +kernel
theorem dX7_keep_4 : decode cX7_keep 4 = .ok (.getfield 90, 3) := by decide +kernel
theorem dX7_keep_7 : decode cX7_keep 7 = .ok (.iconst 2, 1) := by decide +kernel
theorem dX7_keep_8 : decode cX7_keep 8 = .ok (.if_icmp .lt 6, 3) := by decide +kernel
theorem dX7_keep_11 : decode cX7_keep 11 = .ok (.bipush (-3), 2) := by decide +kernel
theorem dX7_keep_13 : decode cX7_keep 13 = .ok (.ireturn, 1) := by decide +kernel
theorem dX7_keep_14 : decode cX7_keep 14 = .ok (.aload_n 0, 1) := by decide +kernel
theorem dX7_keep_15 : decode cX7_keep 15 = .ok (.getfield 42, 3) := by decide +kernel
theorem dX7_keep_18 : decode cX7_keep 18 = .ok (.aload_n 0, 1) := by decide +kernel
theorem dX7_keep_19 : decode cX7_keep 19 = .ok (.getfield 26, 3) := by decide +kernel
theorem dX7_keep_22 : decode cX7_keep 22 = .ok (.invokevirtual 145, 3) := by decide +kernel
theorem dX7_keep_25 : decode cX7_keep 25 = .ok (.aload_n 0, 1) := by decide +kernel
theorem dX7_keep_26 : decode cX7_keep 26 = .ok (.getfield 42, 3) := by decide +kernel
theorem dX7_keep_29 : decode cX7_keep 29 = .ok (.getfield 90, 3) := by decide +kernel
theorem dX7_keep_32 : decode cX7_keep 32 = .ok (.ireturn, 1) := by decide +kernel
theorem dX7_back_0 : decode cX7_back 0 = .ok (.aload_n 0, 1) := by decide +kernel
theorem dX7_back_1 : decode cX7_back 1 = .ok (.getfield 42, 3) := by decide +kernel
theorem dX7_back_4 : decode cX7_back 4 = .ok (.getfield 90, 3) := by decide +kernel
theorem dX7_back_7 : decode cX7_back 7 = .ok (.ifCond .ne 6, 3) := by decide +kernel
theorem dX7_back_10 : decode cX7_back 10 = .ok (.bipush (-2), 2) := by decide +kernel
theorem dX7_back_12 : decode cX7_back 12 = .ok (.ireturn, 1) := by decide +kernel
theorem dX7_back_13 : decode cX7_back 13 = .ok (.aload_n 0, 1) := by decide +kernel
theorem dX7_back_14 : decode cX7_back 14 = .ok (.getfield 42, 3) := by decide +kernel
theorem dX7_back_17 : decode cX7_back 17 = .ok (.aload_n 0, 1) := by decide +kernel
theorem dX7_back_18 : decode cX7_back 18 = .ok (.getfield 26, 3) := by decide +kernel
theorem dX7_back_21 : decode cX7_back 21 = .ok (.invokevirtual 167, 3) := by decide +kernel
theorem dX7_back_24 : decode cX7_back 24 = .ok (.aload_n 0, 1) := by decide +kernel
theorem dX7_back_25 : decode cX7_back 25 = .ok (.getfield 38, 3) := by decide +kernel
theorem dX7_back_28 : decode cX7_back 28 = .ok (.iconst 0, 1) := by decide +kernel
theorem dX7_back_29 : decode cX7_back 29 = .ok (.putfield 90, 3) := by decide +kernel
theorem dX7_back_32 : decode cX7_back 32 = .ok (.aload_n 0, 1) := by decide +kernel
theorem dX7_back_33 : decode cX7_back 33 = .ok (.getfield 42, 3) := by decide +kernel
theorem dX7_back_36 : decode cX7_back 36 = .ok (.getfield 90, 3) := by decide +kernel
theorem dX7_back_39 : decode cX7_back 39 = .ok (.ireturn, 1) := by decide +kernel
theorem dX7_count_0 : decode cX7_count 0 = .ok (.iload_n 1, 1) := by decide +kernel
theorem dX7_count_1 : decode cX7_count 1 = .ok (.tableswitch 127 0 8 #[51, 59, 67, 75, 87, 95, 103, 111, 119], 51) := by decide +kernel
theorem dX7_count_52 : decode cX7_count 52 = .ok (.aload_n 0, 1) := by decide +kernel
theorem dX7_count_53 : decode cX7_count 53 = .ok (.getfield 19, 3) := by decide +kernel
theorem dX7_count_56 : decode cX7_count 56 = .ok (.getfield 92, 3) := by decide +kernel
theorem dX7_count_59 : decode cX7_count 59 = .ok (.ireturn, 1) := by decide +kernel
theorem dX7_count_60 : decode cX7_count 60 = .ok (.aload_n 0, 1) := by decide +kernel
theorem dX7_count_61 : decode cX7_count 61 = .ok (.getfield 26, 3) := by decide +kernel
theorem dX7_count_64 : decode cX7_count 64 = .ok (.getfield 102, 3) := by decide +kernel
theorem dX7_count_67 : decode cX7_count 67 = .ok (.ireturn, 1) := by decide +kernel
theorem dX7_count_68 : decode cX7_count 68 = .ok (.aload_n 0, 1) := by decide +kernel
theorem dX7_count_69 : decode cX7_count 69 = .ok (.getfield 26, 3) := by decide +kernel
theorem dX7_count_72 : decode cX7_count 72 = .ok (.getfield 221, 3) := by decide +kernel
theorem dX7_count_75 : decode cX7_count 75 = .ok (.ireturn, 1) := by decide +kernel
theorem dX7_count_76 : decode cX7_count 76 = .ok (.aload_n 0, 1) := by decide +kernel
theorem dX7_count_77 : decode cX7_count 77 = .ok (.getfield 26, 3) := by decide +kernel
theorem dX7_count_80 : decode cX7_count 80 = .ok (.aload_n 0, 1) := by decide +kernel
theorem dX7_count_81 : decode cX7_count 81 = .ok (.getfield 19, 3) := by decide +kernel
theorem dX7_count_84 : decode cX7_count 84 = .ok (.invokevirtual 210, 3) := by decide +kernel
theorem dX7_count_87 : decode cX7_count 87 = .ok (.ireturn, 1) := by decide +kernel
theorem dX7_count_88 : decode cX7_count 88 = .ok (.aload_n 0, 1) := by decide +kernel
theorem dX7_count_89 : decode cX7_count 89 = .ok (.getfield 19, 3) := by decide +kernel
theorem dX7_count_92 : decode cX7_count 92 = .ok (.getfield 132, 3) := by decide +kernel
theorem dX7_count_95 : decode cX7_count 95 = .ok (.ireturn, 1) := by decide +kernel
theorem dX7_count_96 : decode cX7_count 96 = .ok (.aload_n 0, 1) := by decide +kernel
theorem dX7_count_97 : decode cX7_count 97 = .ok (.getfield 48, 3) := by decide +kernel
theorem dX7_count_100 : decode cX7_count 100 = .ok (.getfield 91, 3) := by decide +kernel
theorem dX7_count_103 : decode cX7_count 103 = .ok (.ireturn, 1) := by decide +kernel
theorem dX7_count_104 : decode cX7_count 104 = .ok (.aload_n 0, 1) := by decide +kernel
theorem dX7_count_105 : decode cX7_count 105 = .ok (.getfield 38, 3) := by decide +kernel
theorem dX7_count_108 : decode cX7_count 108 = .ok (.getfield 90, 3) := by decide +kernel
theorem dX7_count_111 : decode cX7_count 111 = .ok (.ireturn, 1) := by decide +kernel
theorem dX7_count_112 : decode cX7_count 112 = .ok (.aload_n 0, 1) := by decide +kernel
theorem dX7_count_113 : decode cX7_count 113 = .ok (.getfield 42, 3) := by decide +kernel
theorem dX7_count_116 : decode cX7_count 116 = .ok (.getfield 90, 3) := by decide +kernel
theorem dX7_count_119 : decode cX7_count 119 = .ok (.ireturn, 1) := by decide +kernel
theorem dX7_count_120 : decode cX7_count 120 = .ok (.aload_n 0, 1) := by decide +kernel
theorem dX7_count_121 : decode cX7_count 121 = .ok (.getfield 10, 3) := by decide +kernel
theorem dX7_count_124 : decode cX7_count 124 = .ok (.getfield 79, 3) := by decide +kernel
theorem dX7_count_127 : decode cX7_count 127 = .ok (.ireturn, 1) := by decide +kernel
theorem dX7_count_128 : decode cX7_count 128 = .ok (.iconst (-1), 1) := by decide +kernel
theorem dX7_count_129 : decode cX7_count 129 = .ok (.ireturn, 1) := by decide +kernel
theorem dX7_within_0 : decode cX7_within 0 = .ok (.iload_n 0, 1) := by decide +kernel
theorem dX7_within_1 : decode cX7_within 1 = .ok (.iload_n 1, 1) := by decide +kernel
theorem dX7_within_2 : decode cX7_within 2 = .ok (.if_icmp .lt 12, 3) := by decide +kernel
theorem dX7_within_5 : decode cX7_within 5 = .ok (.iload_n 0, 1) := by decide +kernel
theorem dX7_within_6 : decode cX7_within 6 = .ok (.iload_n 2, 1) := by decide +kernel
theorem dX7_within_7 : decode cX7_within 7 = .ok (.if_icmp .gt 7, 3) := by decide +kernel
theorem dX7_within_10 : decode cX7_within 10 = .ok (.iconst 1, 1) := by decide +kernel
theorem dX7_within_11 : decode cX7_within 11 = .ok (.goto 4, 3) := by decide +kernel
theorem dX7_within_14 : decode cX7_within 14 = .ok (.iconst 0, 1) := by decide +kernel
theorem dX7_within_15 : decode cX7_within 15 = .ok (.ireturn, 1) := by decide +kernel
theorem dX7_isSide_0 : decode cX7_isSide 0 = .ok (.iload_n 0, 1) := by decide +kernel
theorem dX7_isSide_1 : decode cX7_isSide 1 = .ok (.iconst 0, 1) := by decide +kernel
theorem dX7_isSide_2 : decode cX7_isSide 2 = .ok (.iconst 1, 1) := by decide +kernel
theorem dX7_isSide_3 : decode cX7_isSide 3 = .ok (.invokestatic 83, 3) := by decide +kernel
theorem dX7_isSide_6 : decode cX7_isSide 6 = .ok (.ireturn, 1) := by decide +kernel
theorem dX7_isKind_0 : decode cX7_isKind 0 = .ok (.iload_n 0, 1) := by decide +kernel
theorem dX7_isKind_1 : decode cX7_isKind 1 = .ok (.iconst 0, 1) := by decide +kernel
theorem dX7_isKind_2 : decode cX7_isKind 2 = .ok (.iconst 4, 1) := by decide +kernel
theorem dX7_isKind_3 : decode cX7_isKind 3 = .ok (.invokestatic 83, 3) := by decide +kernel
theorem dX7_isKind_6 : decode cX7_isKind 6 = .ok (.ireturn, 1) := by decide +kernel
theorem dX7_isDeed_0 : decode cX7_isDeed 0 = .ok (.iload_n 0, 1) := by decide +kernel
theorem dX7_isDeed_1 : decode cX7_isDeed 1 = .ok (.iconst 0, 1) := by decide +kernel
theorem dX7_isDeed_2 : decode cX7_isDeed 2 = .ok (.iconst 4, 1) := by decide +kernel
theorem dX7_isDeed_3 : decode cX7_isDeed 3 = .ok (.invokestatic 83, 3) := by decide +kernel
theorem dX7_isDeed_6 : decode cX7_isDeed 6 = .ok (.ireturn, 1) := by decide +kernel
theorem dX7_cell_0 : decode cX7_cell 0 = .ok (.iload_n 1, 1) := by decide +kernel
theorem dX7_cell_1 : decode cX7_cell 1 = .ok (.ifCond .lt 15, 3) := by decide +kernel
theorem dX7_cell_4 : decode cX7_cell 4 = .ok (.iload_n 1, 1) := by decide +kernel
theorem dX7_cell_5 : decode cX7_cell 5 = .ok (.aload_n 0, 1) := by decide +kernel
theorem dX7_cell_6 : decode cX7_cell 6 = .ok (.arraylength, 1) := by decide +kernel
theorem dX7_cell_7 : decode cX7_cell 7 = .ok (.if_icmp .ge 9, 3) := by decide +kernel
theorem dX7_cell_10 : decode cX7_cell 10 = .ok (.aload_n 0, 1) := by decide +kernel
theorem dX7_cell_11 : decode cX7_cell 11 = .ok (.iload_n 1, 1) := by decide +kernel
theorem dX7_cell_12 : decode cX7_cell 12 = .ok (.iaload, 1) := by decide +kernel
theorem dX7_cell_13 : decode cX7_cell 13 = .ok (.goto 4, 3) := by decide +kernel
theorem dX7_cell_16 : decode cX7_cell 16 = .ok (.iconst 0, 1) := by decide +kernel
theorem dX7_cell_17 : decode cX7_cell 17 = .ok (.ireturn, 1) := by decide +kernel
theorem dX7_setCell_0 : decode cX7_setCell 0 = .ok (.iload_n 1, 1) := by decide +kernel
theorem dX7_setCell_1 : decode cX7_setCell 1 = .ok (.ifCond .lt 13, 3) := by decide +kernel
theorem dX7_setCell_4 : decode cX7_setCell 4 = .ok (.iload_n 1, 1) := by decide +kernel
theorem dX7_setCell_5 : decode cX7_setCell 5 = .ok (.aload_n 0, 1) := by decide +kernel
theorem dX7_setCell_6 : decode cX7_setCell 6 = .ok (.arraylength, 1) := by decide +kernel
theorem dX7_setCell_7 : decode cX7_setCell 7 = .ok (.if_icmp .ge 7, 3) := by decide +kernel
theorem dX7_setCell_10 : decode cX7_setCell 10 = .ok (.aload_n 0, 1) := by decide +kernel
theorem dX7_setCell_11 : decode cX7_setCell 11 = .ok (.iload_n 1, 1) := by decide +kernel
theorem dX7_setCell_12 : decode cX7_setCell 12 = .ok (.iload_n 2, 1) := by decide +kernel
theorem dX7_setCell_13 : decode cX7_setCell 13 = .ok (.iastore, 1) := by decide +kernel
theorem dX7_setCell_14 : decode cX7_setCell 14 = .ok (.return_, 1) := by decide +kernel
theorem dX7_isOver_0 : decode cX7_isOver 0 = .ok (.aload_n 0, 1) := by decide +kernel
theorem dX7_isOver_1 : decode cX7_isOver 1 = .ok (.getfield 26, 3) := by decide +kernel
theorem dX7_isOver_4 : decode cX7_isOver 4 = .ok (.aload_n 0, 1) := by decide +kernel
theorem dX7_isOver_5 : decode cX7_isOver 5 = .ok (.getfield 19, 3) := by decide +kernel
theorem dX7_isOver_8 : decode cX7_isOver 8 = .ok (.invokevirtual 210, 3) := by decide +kernel
theorem dX7_isOver_11 : decode cX7_isOver 11 = .ok (.bipush (-4), 2) := by decide +kernel
theorem dX7_isOver_13 : decode cX7_isOver 13 = .ok (.if_icmp .eq 7, 3) := by decide +kernel
theorem dX7_isOver_16 : decode cX7_isOver 16 = .ok (.iconst 1, 1) := by decide +kernel
theorem dX7_isOver_17 : decode cX7_isOver 17 = .ok (.goto 4, 3) := by decide +kernel
theorem dX7_isOver_20 : decode cX7_isOver 20 = .ok (.iconst 0, 1) := by decide +kernel
theorem dX7_isOver_21 : decode cX7_isOver 21 = .ok (.ireturn, 1) := by decide +kernel
theorem dX7_outcome_0 : decode cX7_outcome 0 = .ok (.iload_n 1, 1) := by decide +kernel
theorem dX7_outcome_1 : decode cX7_outcome 1 = .ok (.lookupswitch 49 #[(0, 27), (1, 38)], 27) := by decide +kernel
theorem dX7_outcome_28 : decode cX7_outcome 28 = .ok (.aload_n 0, 1) := by decide +kernel
theorem dX7_outcome_29 : decode cX7_outcome 29 = .ok (.getfield 30, 3) := by decide +kernel
theorem dX7_outcome_32 : decode cX7_outcome 32 = .ok (.getfield 153, 3) := by decide +kernel
theorem dX7_outcome_35 : decode cX7_outcome 35 = .ok (.getfield 114, 3) := by decide +kernel
theorem dX7_outcome_38 : decode cX7_outcome 38 = .ok (.ireturn, 1) := by decide +kernel
theorem dX7_outcome_39 : decode cX7_outcome 39 = .ok (.aload_n 0, 1) := by decide +kernel
theorem dX7_outcome_40 : decode cX7_outcome 40 = .ok (.getfield 30, 3) := by decide +kernel
theorem dX7_outcome_43 : decode cX7_outcome 43 = .ok (.getfield 157, 3) := by decide +kernel
theorem dX7_outcome_46 : decode cX7_outcome 46 = .ok (.getfield 114, 3) := by decide +kernel
theorem dX7_outcome_49 : decode cX7_outcome 49 = .ok (.ireturn, 1) := by decide +kernel
theorem dX7_outcome_50 : decode cX7_outcome 50 = .ok (.aload_n 0, 1) := by decide +kernel
theorem dX7_outcome_51 : decode cX7_outcome 51 = .ok (.getfield 30, 3) := by decide +kernel
theorem dX7_outcome_54 : decode cX7_outcome 54 = .ok (.aload_n 0, 1) := by decide +kernel
theorem dX7_outcome_55 : decode cX7_outcome 55 = .ok (.getfield 19, 3) := by decide +kernel
theorem dX7_outcome_58 : decode cX7_outcome 58 = .ok (.invokevirtual 210, 3) := by decide +kernel
theorem dX7_outcome_61 : decode cX7_outcome 61 = .ok (.ireturn, 1) := by decide +kernel
theorem dX7_layPaper_0 : decode cX7_layPaper 0 = .ok (.aload_n 0, 1) := by decide +kernel
theorem dX7_layPaper_1 : decode cX7_layPaper 1 = .ok (.getfield 19, 3) := by decide +kernel
theorem dX7_layPaper_4 : decode cX7_layPaper 4 = .ok (.invokevirtual 224, 3) := by decide +kernel
theorem dX7_layPaper_7 : decode cX7_layPaper 7 = .ok (.aload_n 0, 1) := by decide +kernel
theorem dX7_layPaper_8 : decode cX7_layPaper 8 = .ok (.getfield 26, 3) := by decide +kernel
theorem dX7_layPaper_11 : decode cX7_layPaper 11 = .ok (.invokevirtual 227, 3) := by decide +kernel
theorem dX7_layPaper_14 : decode cX7_layPaper 14 = .ok (.iconst 0, 1) := by decide +kernel
theorem dX7_layPaper_15 : decode cX7_layPaper 15 = .ok (.istore_n 1, 1) := by decide +kernel
theorem dX7_layPaper_16 : decode cX7_layPaper 16 = .ok (.iload_n 1, 1) := by decide +kernel
theorem dX7_layPaper_17 : decode cX7_layPaper 17 = .ok (.aload_n 0, 1) := by decide +kernel
theorem dX7_layPaper_18 : decode cX7_layPaper 18 = .ok (.getfield 10, 3) := by decide +kernel
theorem dX7_layPaper_21 : decode cX7_layPaper 21 = .ok (.getfield 79, 3) := by decide +kernel
theorem dX7_layPaper_24 : decode cX7_layPaper 24 = .ok (.if_icmp .ge 42, 3) := by decide +kernel
theorem dX7_layPaper_27 : decode cX7_layPaper 27 = .ok (.aload_n 0, 1) := by decide +kernel
theorem dX7_layPaper_28 : decode cX7_layPaper 28 = .ok (.getfield 10, 3) := by decide +kernel
theorem dX7_layPaper_31 : decode cX7_layPaper 31 = .ok (.iload_n 1, 1) := by decide +kernel
theorem dX7_layPaper_32 : decode cX7_layPaper 32 = .ok (.invokevirtual 228, 3) := by decide +kernel
theorem dX7_layPaper_35 : decode cX7_layPaper 35 = .ok (.istore_n 2, 1) := by decide +kernel
theorem dX7_layPaper_36 : decode cX7_layPaper 36 = .ok (.iload_n 2, 1) := by decide +kernel
theorem dX7_layPaper_37 : decode cX7_layPaper 37 = .ok (.iload_n 1, 1) := by decide +kernel
theorem dX7_layPaper_38 : decode cX7_layPaper 38 = .ok (.if_icmp .gt 4, 3) := by decide +kernel
theorem dX7_layPaper_41 : decode cX7_layPaper 41 = .ok (.return_, 1) := by decide +kernel
theorem dX7_layPaper_42 : decode cX7_layPaper 42 = .ok (.aload_n 0, 1) := by decide +kernel
theorem dX7_layPaper_43 : decode cX7_layPaper 43 = .ok (.aload_n 0, 1) := by decide +kernel
theorem dX7_layPaper_44 : decode cX7_layPaper 44 = .ok (.getfield 10, 3) := by decide +kernel
theorem dX7_layPaper_47 : decode cX7_layPaper 47 = .ok (.iload_n 1, 1) := by decide +kernel
theorem dX7_layPaper_48 : decode cX7_layPaper 48 = .ok (.invokevirtual 231, 3) := by decide +kernel
theorem dX7_layPaper_51 : decode cX7_layPaper 51 = .ok (.aload_n 0, 1) := by decide +kernel
theorem dX7_layPaper_52 : decode cX7_layPaper 52 = .ok (.getfield 10, 3) := by decide +kernel
theorem dX7_layPaper_55 : decode cX7_layPaper 55 = .ok (.getfield 234, 3) := by decide +kernel
theorem dX7_layPaper_58 : decode cX7_layPaper 58 = .ok (.invokevirtual 237, 3) := by decide +kernel
theorem dX7_layPaper_61 : decode cX7_layPaper 61 = .ok (.iload_n 2, 1) := by decide +kernel
theorem dX7_layPaper_62 : decode cX7_layPaper 62 = .ok (.istore_n 1, 1) := by decide +kernel
theorem dX7_layPaper_63 : decode cX7_layPaper 63 = .ok (.goto (-47), 3) := by decide +kernel
theorem dX7_layPaper_66 : decode cX7_layPaper 66 = .ok (.return_, 1) := by decide +kernel
theorem dX7_layItem_0 : decode cX7_layItem 0 = .ok (.aload_n 2, 1) := by decide +kernel
theorem dX7_layItem_1 : decode cX7_layItem 1 = .ok (.iconst 0, 1) := by decide +kernel
theorem dX7_layItem_2 : decode cX7_layItem 2 = .ok (.invokestatic 183, 3) := by decide +kernel
theorem dX7_layItem_5 : decode cX7_layItem 5 = .ok (.istore_n 3, 1) := by decide +kernel
theorem dX7_layItem_6 : decode cX7_layItem 6 = .ok (.iload_n 1, 1) := by decide +kernel
theorem dX7_layItem_7 : decode cX7_layItem 7 = .ok (.tableswitch 189 100 119 #[163, 189, 189, 189, 104, 189, 189, 189, 93, 189, 189, 189, 189, 189, 178, 133, 189, 189, 189, 152], 93) := by decide +kernel
theorem dX7_layItem_100 : decode cX7_layItem 100 = .ok (.aload_n 0, 1) := by decide +kernel
theorem dX7_layItem_101 : decode cX7_layItem 101 = .ok (.getfield 19, 3) := by decide +kernel
theorem dX7_layItem_104 : decode cX7_layItem 104 = .ok (.iload_n 3, 1) := by decide +kernel
theorem dX7_layItem_105 : decode cX7_layItem 105 = .ok (.putfield 92, 3) := by decide +kernel
theorem dX7_layItem_108 : decode cX7_layItem 108 = .ok (.goto 88, 3) := by decide +kernel
theorem dX7_layItem_111 : decode cX7_layItem 111 = .ok (.aload_n 0, 1) := by decide +kernel
theorem dX7_layItem_112 : decode cX7_layItem 112 = .ok (.getfield 26, 3) := by decide +kernel
theorem dX7_layItem_115 : decode cX7_layItem 115 = .ok (.iload_n 3, 1) := by decide +kernel
theorem dX7_layItem_116 : decode cX7_layItem 116 = .ok (.invokevirtual 98, 3) := by decide +kernel
theorem dX7_layItem_119 : decode cX7_layItem 119 = .ok (.aload_n 2, 1) := by decide +kernel
theorem dX7_layItem_120 : decode cX7_layItem 120 = .ok (.iconst 1, 1) := by decide +kernel
theorem dX7_layItem_121 : decode cX7_layItem 121 = .ok (.invokestatic 183, 3) := by decide +kernel
theorem dX7_layItem_124 : decode cX7_layItem 124 = .ok (.aload_n 2, 1) := by decide +kernel
theorem dX7_layItem_125 : decode cX7_layItem 125 = .ok (.iconst 2, 1) := by decide +kernel
theorem dX7_layItem_126 : decode cX7_layItem 126 = .ok (.invokestatic 183, 3) := by decide +kernel
theorem dX7_layItem_129 : decode cX7_layItem 129 = .ok (.aload_n 2, 1) := by decide +kernel
theorem dX7_layItem_130 : decode cX7_layItem 130 = .ok (.iconst 3, 1) := by decide +kernel
theorem dX7_layItem_131 : decode cX7_layItem 131 = .ok (.invokestatic 183, 3) := by decide +kernel
theorem dX7_layItem_134 : decode cX7_layItem 134 = .ok (.invokevirtual 241, 3) := by decide +kernel
theorem dX7_layItem_137 : decode cX7_layItem 137 = .ok (.goto 59, 3) := by decide +kernel
theorem dX7_layItem_140 : decode cX7_layItem 140 = .ok (.aload_n 0, 1) := by decide +kernel
theorem dX7_layItem_141 : decode cX7_layItem 141 = .ok (.getfield 19, 3) := by decide +kernel
theorem dX7_layItem_144 : decode cX7_layItem 144 = .ok (.getfield 243, 3) := by decide +kernel
theorem dX7_layItem_147 : decode cX7_layItem 147 = .ok (.iload_n 3, 1) := by decide +kernel
theorem dX7_layItem_148 : decode cX7_layItem 148 = .ok (.aload_n 2, 1) := by decide +kernel
theorem dX7_layItem_149 : decode cX7_layItem 149 = .ok (.iconst 1, 1) := by decide +kernel
theorem dX7_layItem_150 : decode cX7_layItem 150 = .ok (.invokestatic 183, 3) := by decide +kernel
theorem dX7_layItem_153 : decode cX7_layItem 153 = .ok (.invokestatic 246, 3) := by decide +kernel
theorem dX7_layItem_156 : decode cX7_layItem 156 = .ok (.goto 40, 3) := by decide +kernel
theorem dX7_layItem_159 : decode cX7_layItem 159 = .ok (.aload_n 0, 1) := by decide +kernel
theorem dX7_layItem_160 : decode cX7_layItem 160 = .ok (.getfield 26, 3) := by decide +kernel
theorem dX7_layItem_163 : decode cX7_layItem 163 = .ok (.iload_n 3, 1) := by decide +kernel
theorem dX7_layItem_164 : decode cX7_layItem 164 = .ok (.putfield 221, 3) := by decide +kernel
theorem dX7_layItem_167 : decode cX7_layItem 167 = .ok (.goto 29, 3) := by decide +kernel
theorem dX7_layItem_170 : decode cX7_layItem 170 = .ok (.aload_n 0, 1) := by decide +kernel
theorem dX7_layItem_171 : decode cX7_layItem 171 = .ok (.getfield 19, 3) := by decide +kernel
theorem dX7_layItem_174 : decode cX7_layItem 174 = .ok (.getfield 250, 3) := by decide +kernel
theorem dX7_layItem_177 : decode cX7_layItem 177 = .ok (.iload_n 3, 1) := by decide +kernel
theorem dX7_layItem_178 : decode cX7_layItem 178 = .ok (.iconst 1, 1) := by decide +kernel
theorem dX7_layItem_179 : decode cX7_layItem 179 = .ok (.invokestatic 246, 3) := by decide +kernel
theorem dX7_layItem_182 : decode cX7_layItem 182 = .ok (.goto 14, 3) := by decide +kernel
theorem dX7_layItem_185 : decode cX7_layItem 185 = .ok (.aload_n 0, 1) := by decide +kernel
theorem dX7_layItem_186 : decode cX7_layItem 186 = .ok (.getfield 19, 3) := by decide +kernel
theorem dX7_layItem_189 : decode cX7_layItem 189 = .ok (.iload_n 3, 1) := by decide +kernel
theorem dX7_layItem_190 : decode cX7_layItem 190 = .ok (.putfield 132, 3) := by decide +kernel
theorem dX7_layItem_193 : decode cX7_layItem 193 = .ok (.goto 3, 3) := by decide +kernel
theorem dX7_layItem_196 : decode cX7_layItem 196 = .ok (.return_, 1) := by decide +kernel
theorem dX7_soonestLength_0 : decode cX7_soonestLength 0 = .ok (.iconst 1, 1) := by decide +kernel
theorem dX7_soonestLength_1 : decode cX7_soonestLength 1 = .ok (.istore_n 2, 1) := by decide +kernel
theorem dX7_soonestLength_2 : decode cX7_soonestLength 2 = .ok (.iload_n 2, 1) := by decide +kernel
theorem dX7_soonestLength_3 : decode cX7_soonestLength 3 = .ok (.iconst 5, 1) := by decide +kernel
theorem dX7_soonestLength_4 : decode cX7_soonestLength 4 = .ok (.if_icmp .gt 36, 3) := by decide +kernel
theorem dX7_soonestLength_7 : decode cX7_soonestLength 7 = .ok (.aload_n 0, 1) := by decide +kernel
theorem dX7_soonestLength_8 : decode cX7_soonestLength 8 = .ok (.getfield 57, 3) := by decide +kernel
theorem dX7_soonestLength_11 : decode cX7_soonestLength 11 = .ok (.aload_n 0, 1) := by decide +kernel
theorem dX7_soonestLength_12 : decode cX7_soonestLength 12 = .ok (.getfield 26, 3) := by decide +kernel
theorem dX7_soonestLength_15 : decode cX7_soonestLength 15 = .ok (.iload_n 1, 1) := by decide +kernel
theorem dX7_soonestLength_16 : decode cX7_soonestLength 16 = .ok (.iload_n 2, 1) := by decide +kernel
theorem dX7_soonestLength_17 : decode cX7_soonestLength 17 = .ok (.iconst 1, 1) := by decide +kernel
theorem dX7_soonestLength_18 : decode cX7_soonestLength 18 = .ok (.invokevirtual 187, 3) := by decide +kernel
theorem dX7_soonestLength_21 : decode cX7_soonestLength 21 = .ok (.aload_n 0, 1) := by decide +kernel
theorem dX7_soonestLength_22 : decode cX7_soonestLength 22 = .ok (.getfield 57, 3) := by decide +kernel
theorem dX7_soonestLength_25 : decode cX7_soonestLength 25 = .ok (.iconst 0, 1) := by decide +kernel
theorem dX7_soonestLength_26 : decode cX7_soonestLength 26 = .ok (.invokestatic 191, 3) := by decide +kernel
theorem dX7_soonestLength_29 : decode cX7_soonestLength 29 = .ok (.ifCond .eq 5, 3) := by decide +kernel
theorem dX7_soonestLength_32 : decode cX7_soonestLength 32 = .ok (.iload_n 2, 1) := by decide +kernel
theorem dX7_soonestLength_33 : decode cX7_soonestLength 33 = .ok (.ireturn, 1) := by decide +kernel
theorem dX7_soonestLength_34 : decode cX7_soonestLength 34 = .ok (.iinc 2 1, 3) := by decide +kernel
theorem dX7_soonestLength_37 : decode cX7_soonestLength 37 = .ok (.goto (-35), 3) := by decide +kernel
theorem dX7_soonestLength_40 : decode cX7_soonestLength 40 = .ok (.iconst 0, 1) := by decide +kernel
theorem dX7_soonestLength_41 : decode cX7_soonestLength 41 = .ok (.ireturn, 1) := by decide +kernel
theorem dX7_finds_0 : decode cX7_finds 0 = .ok (.iload_n 1, 1) := by decide +kernel
theorem dX7_finds_1 : decode cX7_finds 1 = .ok (.aload_n 0, 1) := by decide +kernel
theorem dX7_finds_2 : decode cX7_finds 2 = .ok (.getfield 253, 3) := by decide +kernel
theorem dX7_finds_5 : decode cX7_finds 5 = .ok (.if_icmp .ge 8, 3) := by decide +kernel
theorem dX7_finds_8 : decode cX7_finds 8 = .ok (.iload_n 1, 1) := by decide +kernel
theorem dX7_finds_9 : decode cX7_finds 9 = .ok (.iconst 5, 1) := by decide +kernel
theorem dX7_finds_10 : decode cX7_finds 10 = .ok (.if_icmp .lt 9, 3) := by decide +kernel
theorem dX7_finds_13 : decode cX7_finds 13 = .ok (.aload_n 0, 1) := by decide +kernel
theorem dX7_finds_14 : decode cX7_finds 14 = .ok (.iload_n 1, 1) := by decide +kernel
theorem dX7_finds_15 : decode cX7_finds 15 = .ok (.invokevirtual 254, 3) := by decide +kernel
theorem dX7_finds_18 : decode cX7_finds 18 = .ok (.ireturn, 1) := by decide +kernel
theorem dX7_finds_19 : decode cX7_finds 19 = .ok (.aload_n 0, 1) := by decide +kernel
theorem dX7_finds_20 : decode cX7_finds 20 = .ok (.getfield 257, 3) := by decide +kernel
theorem dX7_finds_23 : decode cX7_finds 23 = .ok (.ifCond .eq 7, 3) := by decide +kernel
theorem dX7_finds_26 : decode cX7_finds 26 = .ok (.iconst 0, 1) := by decide +kernel
theorem dX7_finds_27 : decode cX7_finds 27 = .ok (.goto 4, 3) := by decide +kernel
theorem dX7_finds_30 : decode cX7_finds 30 = .ok (.iconst 2, 1) := by decide +kernel
theorem dX7_finds_31 : decode cX7_finds 31 = .ok (.istore_n 2, 1) := by decide +kernel
theorem dX7_finds_32 : decode cX7_finds 32 = .ok (.iconst 0, 1) := by decide +kernel
theorem dX7_finds_33 : decode cX7_finds 33 = .ok (.istore_n 3, 1) := by decide +kernel
theorem dX7_finds_34 : decode cX7_finds 34 = .ok (.iload_n 3, 1) := by decide +kernel
theorem dX7_finds_35 : decode cX7_finds 35 = .ok (.iconst 5, 1) := by decide +kernel
theorem dX7_finds_36 : decode cX7_finds 36 = .ok (.if_icmp .ge 59, 3) := by decide +kernel
theorem dX7_finds_39 : decode cX7_finds 39 = .ok (.aload_n 0, 1) := by decide +kernel
theorem dX7_finds_40 : decode cX7_finds 40 = .ok (.getfield 179, 3) := by decide +kernel
theorem dX7_finds_43 : decode cX7_finds 43 = .ok (.iload_n 1, 1) := by decide +kernel
theorem dX7_finds_44 : decode cX7_finds 44 = .ok (.iload_n 3, 1) := by decide +kernel
theorem dX7_finds_45 : decode cX7_finds 45 = .ok (.invokestatic 246, 3) := by decide +kernel
theorem dX7_finds_48 : decode cX7_finds 48 = .ok (.aload_n 0, 1) := by decide +kernel
theorem dX7_finds_49 : decode cX7_finds 49 = .ok (.iload_n 1, 1) := by decide +kernel
theorem dX7_finds_50 : decode cX7_finds 50 = .ok (.aload_n 0, 1) := by decide +kernel
theorem dX7_finds_51 : decode cX7_finds 51 = .ok (.getfield 261, 3) := by decide +kernel
theorem dX7_finds_54 : decode cX7_finds 54 = .ok (.ifCond .ne 7, 3) := by decide +kernel
theorem dX7_finds_57 : decode cX7_finds 57 = .ok (.iload_n 3, 1) := by decide +kernel
theorem dX7_finds_58 : decode cX7_finds 58 = .ok (.goto 4, 3) := by decide +kernel
theorem dX7_finds_61 : decode cX7_finds 61 = .ok (.iload_n 2, 1) := by decide +kernel
theorem dX7_finds_62 : decode cX7_finds 62 = .ok (.aload_n 0, 1) := by decide +kernel
theorem dX7_finds_63 : decode cX7_finds 63 = .ok (.getfield 261, 3) := by decide +kernel
theorem dX7_finds_66 : decode cX7_finds 66 = .ok (.ifCond .ne 7, 3) := by decide +kernel
theorem dX7_finds_69 : decode cX7_finds 69 = .ok (.iload_n 2, 1) := by decide +kernel
theorem dX7_finds_70 : decode cX7_finds 70 = .ok (.goto 4, 3) := by decide +kernel
theorem dX7_finds_73 : decode cX7_finds 73 = .ok (.iload_n 3, 1) := by decide +kernel
theorem dX7_finds_74 : decode cX7_finds 74 = .ok (.invokevirtual 264, 3) := by decide +kernel
theorem dX7_finds_77 : decode cX7_finds 77 = .ok (.aload_n 0, 1) := by decide +kernel
theorem dX7_finds_78 : decode cX7_finds 78 = .ok (.iload_n 1, 1) := by decide +kernel
theorem dX7_finds_79 : decode cX7_finds 79 = .ok (.iconst 1, 1) := by decide +kernel
theorem dX7_finds_80 : decode cX7_finds 80 = .ok (.iadd, 1) := by decide +kernel
theorem dX7_finds_81 : decode cX7_finds 81 = .ok (.invokestatic 191, 3) := by decide +kernel
theorem dX7_finds_84 : decode cX7_finds 84 = .ok (.ifCond .eq 5, 3) := by decide +kernel
theorem dX7_finds_87 : decode cX7_finds 87 = .ok (.iconst 1, 1) := by decide +kernel
theorem dX7_finds_88 : decode cX7_finds 88 = .ok (.ireturn, 1) := by decide +kernel
theorem dX7_finds_89 : decode cX7_finds 89 = .ok (.iinc 3 1, 3) := by decide +kernel
theorem dX7_finds_92 : decode cX7_finds 92 = .ok (.goto (-58), 3) := by decide +kernel
theorem dX7_finds_95 : decode cX7_finds 95 = .ok (.iconst 0, 1) := by decide +kernel
theorem dX7_finds_96 : decode cX7_finds 96 = .ok (.ireturn, 1) := by decide +kernel
theorem dX7_bestLead_0 : decode cX7_bestLead 0 = .ok (.iload_n 1, 1) := by decide +kernel
theorem dX7_bestLead_1 : decode cX7_bestLead 1 = .ok (.aload_n 0, 1) := by decide +kernel
theorem dX7_bestLead_2 : decode cX7_bestLead 2 = .ok (.getfield 253, 3) := by decide +kernel
theorem dX7_bestLead_5 : decode cX7_bestLead 5 = .ok (.if_icmp .ge 16, 3) := by decide +kernel
theorem dX7_bestLead_8 : decode cX7_bestLead 8 = .ok (.iload_n 1, 1) := by decide +kernel
theorem dX7_bestLead_9 : decode cX7_bestLead 9 = .ok (.iconst 5, 1) := by decide +kernel
theorem dX7_bestLead_10 : decode cX7_bestLead 10 = .ok (.if_icmp .ge 11, 3) := by decide +kernel
theorem dX7_bestLead_13 : decode cX7_bestLead 13 = .ok (.aload_n 0, 1) := by decide +kernel
theorem dX7_bestLead_14 : decode cX7_bestLead 14 = .ok (.iload_n 1, 1) := by decide +kernel
theorem dX7_bestLead_15 : decode cX7_bestLead 15 = .ok (.invokevirtual 267, 3) := by decide +kernel
theorem dX7_bestLead_18 : decode cX7_bestLead 18 = .ok (.ifCond .eq 9, 3) := by decide +kernel
theorem dX7_bestLead_21 : decode cX7_bestLead 21 = .ok (.aload_n 0, 1) := by decide +kernel
theorem dX7_bestLead_22 : decode cX7_bestLead 22 = .ok (.iload_n 1, 1) := by decide +kernel
theorem dX7_bestLead_23 : decode cX7_bestLead 23 = .ok (.invokevirtual 269, 3) := by decide +kernel
theorem dX7_bestLead_26 : decode cX7_bestLead 26 = .ok (.ireturn, 1) := by decide +kernel
theorem dX7_bestLead_27 : decode cX7_bestLead 27 = .ok (.ldc_w 272, 3) := by decide +kernel
theorem dX7_bestLead_30 : decode cX7_bestLead 30 = .ok (.istore_n 2, 1) := by decide +kernel
theorem dX7_bestLead_31 : decode cX7_bestLead 31 = .ok (.iconst 0, 1) := by decide +kernel
theorem dX7_bestLead_32 : decode cX7_bestLead 32 = .ok (.istore_n 3, 1) := by decide +kernel
theorem dX7_bestLead_33 : decode cX7_bestLead 33 = .ok (.iload_n 3, 1) := by decide +kernel
theorem dX7_bestLead_34 : decode cX7_bestLead 34 = .ok (.iconst 5, 1) := by decide +kernel
theorem dX7_bestLead_35 : decode cX7_bestLead 35 = .ok (.if_icmp .ge 75, 3) := by decide +kernel
theorem dX7_bestLead_38 : decode cX7_bestLead 38 = .ok (.ldc_w 273, 3) := by decide +kernel
theorem dX7_bestLead_41 : decode cX7_bestLead 41 = .ok (.istore 4, 2) := by decide +kernel
theorem dX7_bestLead_43 : decode cX7_bestLead 43 = .ok (.iconst 0, 1) := by decide +kernel
theorem dX7_bestLead_44 : decode cX7_bestLead 44 = .ok (.istore 5, 2) := by decide +kernel
theorem dX7_bestLead_46 : decode cX7_bestLead 46 = .ok (.iload 5, 2) := by decide +kernel
theorem dX7_bestLead_48 : decode cX7_bestLead 48 = .ok (.iconst 5, 1) := by decide +kernel
theorem dX7_bestLead_49 : decode cX7_bestLead 49 = .ok (.if_icmp .ge 37, 3) := by decide +kernel
theorem dX7_bestLead_52 : decode cX7_bestLead 52 = .ok (.iload 4, 2) := by decide +kernel
theorem dX7_bestLead_54 : decode cX7_bestLead 54 = .ok (.iload_n 2, 1) := by decide +kernel
theorem dX7_bestLead_55 : decode cX7_bestLead 55 = .ok (.if_icmp .le 31, 3) := by decide +kernel
theorem dX7_bestLead_58 : decode cX7_bestLead 58 = .ok (.aload_n 0, 1) := by decide +kernel
theorem dX7_bestLead_59 : decode cX7_bestLead 59 = .ok (.iload_n 1, 1) := by decide +kernel
theorem dX7_bestLead_60 : decode cX7_bestLead 60 = .ok (.iload_n 3, 1) := by decide +kernel
theorem dX7_bestLead_61 : decode cX7_bestLead 61 = .ok (.iload 5, 2) := by decide +kernel
theorem dX7_bestLead_63 : decode cX7_bestLead 63 = .ok (.invokevirtual 264, 3) := by decide +kernel
theorem dX7_bestLead_66 : decode cX7_bestLead 66 = .ok (.iload 4, 2) := by decide +kernel
theorem dX7_bestLead_68 : decode cX7_bestLead 68 = .ok (.aload_n 0, 1) := by decide +kernel
theorem dX7_bestLead_69 : decode cX7_bestLead 69 = .ok (.iload_n 1, 1) := by decide +kernel
theorem dX7_bestLead_70 : decode cX7_bestLead 70 = .ok (.iconst 1, 1) := by decide +kernel
theorem dX7_bestLead_71 : decode cX7_bestLead 71 = .ok (.iadd, 1) := by decide +kernel
theorem dX7_bestLead_72 : decode cX7_bestLead 72 = .ok (.invokestatic 195, 3) := by decide +kernel
theorem dX7_bestLead_75 : decode cX7_bestLead 75 = .ok (.invokestatic 274, 3) := by decide +kernel
theorem dX7_bestLead_78 : decode cX7_bestLead 78 = .ok (.istore 4, 2) := by decide +kernel
theorem dX7_bestLead_80 : decode cX7_bestLead 80 = .ok (.iinc 5 1, 3) := by decide +kernel
theorem dX7_bestLead_83 : decode cX7_bestLead 83 = .ok (.goto (-37), 3) := by decide +kernel
theorem dX7_bestLead_86 : decode cX7_bestLead 86 = .ok (.iload 4, 2) := by decide +kernel
theorem dX7_bestLead_88 : decode cX7_bestLead 88 = .ok (.iload_n 2, 1) := by decide +kernel
theorem dX7_bestLead_89 : decode cX7_bestLead 89 = .ok (.if_icmp .le 15, 3) := by decide +kernel
theorem dX7_bestLead_92 : decode cX7_bestLead 92 = .ok (.iload 4, 2) := by decide +kernel
theorem dX7_bestLead_94 : decode cX7_bestLead 94 = .ok (.istore_n 2, 1) := by decide +kernel
theorem dX7_bestLead_95 : decode cX7_bestLead 95 = .ok (.aload_n 0, 1) := by decide +kernel
theorem dX7_bestLead_96 : decode cX7_bestLead 96 = .ok (.getfield 179, 3) := by decide +kernel
theorem dX7_bestLead_99 : decode cX7_bestLead 99 = .ok (.iload_n 1, 1) := by decide +kernel
theorem dX7_bestLead_100 : decode cX7_bestLead 100 = .ok (.iload_n 3, 1) := by decide +kernel
theorem dX7_bestLead_101 : decode cX7_bestLead 101 = .ok (.invokestatic 246, 3) := by decide +kernel
theorem dX7_bestLead_104 : decode cX7_bestLead 104 = .ok (.iinc 3 1, 3) := by decide +kernel
theorem dX7_bestLead_107 : decode cX7_bestLead 107 = .ok (.goto (-74), 3) := by decide +kernel
theorem dX7_bestLead_110 : decode cX7_bestLead 110 = .ok (.iload_n 2, 1) := by decide +kernel
theorem dX7_bestLead_111 : decode cX7_bestLead 111 = .ok (.ireturn, 1) := by decide +kernel
theorem dX7_comesAsSeen_0 : decode cX7_comesAsSeen 0 = .ok (.iconst 1, 1) := by decide +kernel
theorem dX7_comesAsSeen_1 : decode cX7_comesAsSeen 1 = .ok (.istore_n 3, 1) := by decide +kernel
theorem dX7_comesAsSeen_2 : decode cX7_comesAsSeen 2 = .ok (.iload_n 3, 1) := by decide +kernel
theorem dX7_comesAsSeen_3 : decode cX7_comesAsSeen 3 = .ok (.bipush 24, 2) := by decide +kernel
theorem dX7_comesAsSeen_5 : decode cX7_comesAsSeen 5 = .ok (.if_icmp .gt 70, 3) := by decide +kernel
theorem dX7_comesAsSeen_8 : decode cX7_comesAsSeen 8 = .ok (.iload_n 3, 1) := by decide +kernel
theorem dX7_comesAsSeen_9 : decode cX7_comesAsSeen 9 = .ok (.iconst 1, 1) := by decide +kernel
theorem dX7_comesAsSeen_10 : decode cX7_comesAsSeen 10 = .ok (.if_icmp .ne 7, 3) := by decide +kernel
theorem dX7_comesAsSeen_13 : decode cX7_comesAsSeen 13 = .ok (.iload_n 2, 1) := by decide +kernel
theorem dX7_comesAsSeen_14 : decode cX7_comesAsSeen 14 = .ok (.goto 4, 3) := by decide +kernel
theorem dX7_comesAsSeen_17 : decode cX7_comesAsSeen 17 = .ok (.iconst 0, 1) := by decide +kernel
theorem dX7_comesAsSeen_18 : decode cX7_comesAsSeen 18 = .ok (.istore 4, 2) := by decide +kernel
theorem dX7_comesAsSeen_20 : decode cX7_comesAsSeen 20 = .ok (.aload_n 0, 1) := by decide +kernel
theorem dX7_comesAsSeen_21 : decode cX7_comesAsSeen 21 = .ok (.getfield 30, 3) := by decide +kernel
theorem dX7_comesAsSeen_24 : decode cX7_comesAsSeen 24 = .ok (.aload_n 0, 1) := by decide +kernel
theorem dX7_comesAsSeen_25 : decode cX7_comesAsSeen 25 = .ok (.getfield 19, 3) := by decide +kernel
theorem dX7_comesAsSeen_28 : decode cX7_comesAsSeen 28 = .ok (.iload_n 1, 1) := by decide +kernel
theorem dX7_comesAsSeen_29 : decode cX7_comesAsSeen 29 = .ok (.ifCond .ne 8, 3) := by decide +kernel
theorem dX7_comesAsSeen_32 : decode cX7_comesAsSeen 32 = .ok (.iload 4, 2) := by decide +kernel
theorem dX7_comesAsSeen_34 : decode cX7_comesAsSeen 34 = .ok (.goto 4, 3) := by decide +kernel
theorem dX7_comesAsSeen_37 : decode cX7_comesAsSeen 37 = .ok (.iconst 0, 1) := by decide +kernel
theorem dX7_comesAsSeen_38 : decode cX7_comesAsSeen 38 = .ok (.iload_n 1, 1) := by decide +kernel
theorem dX7_comesAsSeen_39 : decode cX7_comesAsSeen 39 = .ok (.iconst 1, 1) := by decide +kernel
theorem dX7_comesAsSeen_40 : decode cX7_comesAsSeen 40 = .ok (.if_icmp .ne 8, 3) := by decide +kernel
theorem dX7_comesAsSeen_43 : decode cX7_comesAsSeen 43 = .ok (.iload 4, 2) := by decide +kernel
theorem dX7_comesAsSeen_45 : decode cX7_comesAsSeen 45 = .ok (.goto 4, 3) := by decide +kernel
theorem dX7_comesAsSeen_48 : decode cX7_comesAsSeen 48 = .ok (.iconst 0, 1) := by decide +kernel
theorem dX7_comesAsSeen_49 : decode cX7_comesAsSeen 49 = .ok (.invokevirtual 149, 3) := by decide +kernel
theorem dX7_comesAsSeen_52 : decode cX7_comesAsSeen 52 = .ok (.aload_n 0, 1) := by decide +kernel
theorem dX7_comesAsSeen_53 : decode cX7_comesAsSeen 53 = .ok (.getfield 48, 3) := by decide +kernel
theorem dX7_comesAsSeen_56 : decode cX7_comesAsSeen 56 = .ok (.iload_n 3, 1) := by decide +kernel
theorem dX7_comesAsSeen_57 : decode cX7_comesAsSeen 57 = .ok (.aload_n 0, 1) := by decide +kernel
theorem dX7_comesAsSeen_58 : decode cX7_comesAsSeen 58 = .ok (.getfield 30, 3) := by decide +kernel
theorem dX7_comesAsSeen_61 : decode cX7_comesAsSeen 61 = .ok (.invokevirtual 279, 3) := by decide +kernel
theorem dX7_comesAsSeen_64 : decode cX7_comesAsSeen 64 = .ok (.ifCond .ne 5, 3) := by decide +kernel
theorem dX7_comesAsSeen_67 : decode cX7_comesAsSeen 67 = .ok (.iconst 0, 1) := by decide +kernel
theorem dX7_comesAsSeen_68 : decode cX7_comesAsSeen 68 = .ok (.ireturn, 1) := by decide +kernel
theorem dX7_comesAsSeen_69 : decode cX7_comesAsSeen 69 = .ok (.iinc 3 1, 3) := by decide +kernel
theorem dX7_comesAsSeen_72 : decode cX7_comesAsSeen 72 = .ok (.goto (-70), 3) := by decide +kernel
theorem dX7_comesAsSeen_75 : decode cX7_comesAsSeen 75 = .ok (.iconst 1, 1) := by decide +kernel
theorem dX7_comesAsSeen_76 : decode cX7_comesAsSeen 76 = .ok (.ireturn, 1) := by decide +kernel
theorem dX7_playDrought_0 : decode cX7_playDrought 0 = .ok (.aload_n 0, 1) := by decide +kernel
theorem dX7_playDrought_1 : decode cX7_playDrought 1 = .ok (.getfield 30, 3) := by decide +kernel
theorem dX7_playDrought_4 : decode cX7_playDrought 4 = .ok (.aload_n 0, 1) := by decide +kernel
theorem dX7_playDrought_5 : decode cX7_playDrought 5 = .ok (.getfield 26, 3) := by decide +kernel
theorem dX7_playDrought_8 : decode cX7_playDrought 8 = .ok (.invokevirtual 170, 3) := by decide +kernel
theorem dX7_playDrought_11 : decode cX7_playDrought 11 = .ok (.iconst 1, 1) := by decide +kernel
theorem dX7_playDrought_12 : decode cX7_playDrought 12 = .ok (.istore 4, 2) := by decide +kernel
theorem dX7_playDrought_14 : decode cX7_playDrought 14 = .ok (.iconst 0, 1) := by decide +kernel
theorem dX7_playDrought_15 : decode cX7_playDrought 15 = .ok (.istore 5, 2) := by decide +kernel
theorem dX7_playDrought_17 : decode cX7_playDrought 17 = .ok (.iload 5, 2) := by decide +kernel
theorem dX7_playDrought_19 : decode cX7_playDrought 19 = .ok (.iload_n 2, 1) := by decide +kernel
theorem dX7_playDrought_20 : decode cX7_playDrought 20 = .ok (.if_icmp .ge 59, 3) := by decide +kernel
theorem dX7_playDrought_23 : decode cX7_playDrought 23 = .ok (.iload_n 1, 1) := by decide +kernel
theorem dX7_playDrought_24 : decode cX7_playDrought 24 = .ok (.iload 5, 2) := by decide +kernel
theorem dX7_playDrought_26 : decode cX7_playDrought 26 = .ok (.ishr, 1) := by decide +kernel
theorem dX7_playDrought_27 : decode cX7_playDrought 27 = .ok (.iconst 1, 1) := by decide +kernel
theorem dX7_playDrought_28 : decode cX7_playDrought 28 = .ok (.iand, 1) := by decide +kernel
theorem dX7_playDrought_29 : decode cX7_playDrought 29 = .ok (.iconst 1, 1) := by decide +kernel
theorem dX7_playDrought_30 : decode cX7_playDrought 30 = .ok (.if_icmp .ne 7, 3) := by decide +kernel
theorem dX7_playDrought_33 : decode cX7_playDrought 33 = .ok (.iconst 1, 1) := by decide +kernel
theorem dX7_playDrought_34 : decode cX7_playDrought 34 = .ok (.goto 4, 3) := by decide +kernel
theorem dX7_playDrought_37 : decode cX7_playDrought 37 = .ok (.iconst 0, 1) := by decide +kernel
theorem dX7_playDrought_38 : decode cX7_playDrought 38 = .ok (.istore 6, 2) := by decide +kernel
theorem dX7_playDrought_40 : decode cX7_playDrought 40 = .ok (.iload 4, 2) := by decide +kernel
theorem dX7_playDrought_42 : decode cX7_playDrought 42 = .ok (.iload 6, 2) := by decide +kernel
theorem dX7_playDrought_44 : decode cX7_playDrought 44 = .ok (.ifCond .eq 7, 3) := by decide +kernel
theorem dX7_playDrought_47 : decode cX7_playDrought 47 = .ok (.iload_n 3, 1) := by decide +kernel
theorem dX7_playDrought_48 : decode cX7_playDrought 48 = .ok (.goto 7, 3) := by decide +kernel
theorem dX7_playDrought_51 : decode cX7_playDrought 51 = .ok (.bipush 10, 2) := by decide +kernel
theorem dX7_playDrought_53 : decode cX7_playDrought 53 = .ok (.iload_n 3, 1) := by decide +kernel
theorem dX7_playDrought_54 : decode cX7_playDrought 54 = .ok (.isub, 1) := by decide +kernel
theorem dX7_playDrought_55 : decode cX7_playDrought 55 = .ok (.imul, 1) := by decide +kernel
theorem dX7_playDrought_56 : decode cX7_playDrought 56 = .ok (.istore 4, 2) := by decide +kernel
theorem dX7_playDrought_58 : decode cX7_playDrought 58 = .ok (.aload_n 0, 1) := by decide +kernel
theorem dX7_playDrought_59 : decode cX7_playDrought 59 = .ok (.getfield 30, 3) := by decide +kernel
theorem dX7_playDrought_62 : decode cX7_playDrought 62 = .ok (.aload_n 0, 1) := by decide +kernel
theorem dX7_playDrought_63 : decode cX7_playDrought 63 = .ok (.getfield 19, 3) := by decide +kernel
theorem dX7_playDrought_66 : decode cX7_playDrought 66 = .ok (.iconst 0, 1) := by decide +kernel
theorem dX7_playDrought_67 : decode cX7_playDrought 67 = .ok (.iconst 0, 1) := by decide +kernel
theorem dX7_playDrought_68 : decode cX7_playDrought 68 = .ok (.iload 6, 2) := by decide +kernel
theorem dX7_playDrought_70 : decode cX7_playDrought 70 = .ok (.invokevirtual 283, 3) := by decide +kernel
theorem dX7_playDrought_73 : decode cX7_playDrought 73 = .ok (.iinc 5 1, 3) := by decide +kernel
theorem dX7_playDrought_76 : decode cX7_playDrought 76 = .ok (.goto (-59), 3) := by decide +kernel
theorem dX7_playDrought_79 : decode cX7_playDrought 79 = .ok (.iload 4, 2) := by decide +kernel
theorem dX7_playDrought_81 : decode cX7_playDrought 81 = .ok (.ireturn, 1) := by decide +kernel
theorem dX7_commonDivisor_0 : decode cX7_commonDivisor 0 = .ok (.iconst 0, 1) := by decide +kernel
theorem dX7_commonDivisor_1 : decode cX7_commonDivisor 1 = .ok (.istore_n 2, 1) := by decide +kernel
theorem dX7_commonDivisor_2 : decode cX7_commonDivisor 2 = .ok (.iload_n 2, 1) := by decide +kernel
theorem dX7_commonDivisor_3 : decode cX7_commonDivisor 3 = .ok (.bipush 100, 2) := by decide +kernel
theorem dX7_commonDivisor_5 : decode cX7_commonDivisor 5 = .ok (.if_icmp .ge 21, 3) := by decide +kernel
theorem dX7_commonDivisor_8 : decode cX7_commonDivisor 8 = .ok (.iload_n 1, 1) := by decide +kernel
theorem dX7_commonDivisor_9 : decode cX7_commonDivisor 9 = .ok (.ifCond .le 17, 3) := by decide +kernel
theorem dX7_commonDivisor_12 : decode cX7_commonDivisor 12 = .ok (.iload_n 0, 1) := by decide +kernel
theorem dX7_commonDivisor_13 : decode cX7_commonDivisor 13 = .ok (.iload_n 1, 1) := by decide +kernel
theorem dX7_commonDivisor_14 : decode cX7_commonDivisor 14 = .ok (.irem, 1) := by decide +kernel
theorem dX7_commonDivisor_15 : decode cX7_commonDivisor 15 = .ok (.istore_n 3, 1) := by decide +kernel
theorem dX7_commonDivisor_16 : decode cX7_commonDivisor 16 = .ok (.iload_n 1, 1) := by decide +kernel
theorem dX7_commonDivisor_17 : decode cX7_commonDivisor 17 = .ok (.istore_n 0, 1) := by decide +kernel
theorem dX7_commonDivisor_18 : decode cX7_commonDivisor 18 = .ok (.iload_n 3, 1) := by decide +kernel
theorem dX7_commonDivisor_19 : decode cX7_commonDivisor 19 = .ok (.istore_n 1, 1) := by decide +kernel
theorem dX7_commonDivisor_20 : decode cX7_commonDivisor 20 = .ok (.iinc 2 1, 3) := by decide +kernel
theorem dX7_commonDivisor_23 : decode cX7_commonDivisor 23 = .ok (.goto (-21), 3) := by decide +kernel
theorem dX7_commonDivisor_26 : decode cX7_commonDivisor 26 = .ok (.iload_n 0, 1) := by decide +kernel
theorem dX7_commonDivisor_27 : decode cX7_commonDivisor 27 = .ok (.ireturn, 1) := by decide +kernel
theorem dX7_drawOf_0 : decode cX7_drawOf 0 = .ok (.ldc2_w 287, 3) := by decide +kernel
theorem dX7_drawOf_3 : decode cX7_drawOf 3 = .ok (.iload_n 0, 1) := by decide +kernel
theorem dX7_drawOf_4 : decode cX7_drawOf 4 = .ok (.i2l, 1) := by decide +kernel
theorem dX7_drawOf_5 : decode cX7_drawOf 5 = .ok (.lmul, 1) := by decide +kernel
theorem dX7_drawOf_6 : decode cX7_drawOf 6 = .ok (.ldc2_w 289, 3) := by decide +kernel
theorem dX7_drawOf_9 : decode cX7_drawOf 9 = .ok (.iload_n 1, 1) := by decide +kernel
theorem dX7_drawOf_10 : decode cX7_drawOf 10 = .ok (.i2l, 1) := by decide +kernel
theorem dX7_drawOf_11 : decode cX7_drawOf 11 = .ok (.lmul, 1) := by decide +kernel
theorem dX7_drawOf_12 : decode cX7_drawOf 12 = .ok (.ladd, 1) := by decide +kernel
theorem dX7_drawOf_13 : decode cX7_drawOf 13 = .ok (.lconst 1, 1) := by decide +kernel
theorem dX7_drawOf_14 : decode cX7_drawOf 14 = .ok (.ladd, 1) := by decide +kernel
theorem dX7_drawOf_15 : decode cX7_drawOf 15 = .ok (.lstore_n 2, 1) := by decide +kernel
theorem dX7_drawOf_16 : decode cX7_drawOf 16 = .ok (.lload_n 2, 1) := by decide +kernel
theorem dX7_drawOf_17 : decode cX7_drawOf 17 = .ok (.lload_n 2, 1) := by decide +kernel
theorem dX7_drawOf_18 : decode cX7_drawOf 18 = .ok (.lmul, 1) := by decide +kernel
theorem dX7_drawOf_19 : decode cX7_drawOf 19 = .ok (.ldc2_w 291, 3) := by decide +kernel
theorem dX7_drawOf_22 : decode cX7_drawOf 22 = .ok (.lrem, 1) := by decide +kernel
theorem dX7_drawOf_23 : decode cX7_drawOf 23 = .ok (.ldc2_w 293, 3) := by decide +kernel
theorem dX7_drawOf_26 : decode cX7_drawOf 26 = .ok (.ldiv, 1) := by decide +kernel
theorem dX7_drawOf_27 : decode cX7_drawOf 27 = .ok (.l2i, 1) := by decide +kernel
theorem dX7_drawOf_28 : decode cX7_drawOf 28 = .ok (.ireturn, 1) := by decide +kernel
