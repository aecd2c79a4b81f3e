theorem dX4_init_0 : decode cX4_init 0 = .ok (.aload_n 0, 1) := by decide +kernel
theorem dX4_init_1 : decode cX4_init 1 = .ok (.invokespecial 3, 3) := by decide +kernel
theorem dX4_init_4 : decode cX4_init 4 = .ok (.aload_n 0, 1) := by decide +kernel
theorem dX4_init_5 : decode cX4_init 5 = .ok (.new 9, 3) := by decide +kernel
theorem dX4_init_8 : decode cX4_init 8 = .ok (.dup, 1) := by decide +kernel
theorem dX4_init_9 : decode cX4_init 9 = .ok (.invokespecial 11, 3) := by decide +kernel
theorem dX4_init_12 : decode cX4_init 12 = .ok (.putfield 12, 3) := by decide +kernel
theorem dX4_init_15 : decode cX4_init 15 = .ok (.return_, 1) := by decide +kernel
theorem dX4_write_0 : decode cX4_write 0 = .ok (.aload_n 0, 1) := by decide +kernel
theorem dX4_write_1 : decode cX4_write 1 = .ok (.getfield 12, 3) := by decide +kernel
theorem dX4_write_4 : decode cX4_write 4 = .ok (.iload_n 1, 1) := by decide +kernel
theorem dX4_write_5 : decode cX4_write 5 = .ok (.iload_n 2, 1) := by decide +kernel
theorem dX4_write_6 : decode cX4_write 6 = .ok (.invokevirtual 18, 3) := by decide +kernel
theorem dX4_write_9 : decode cX4_write 9 = .ok (.return_, 1) := by decide +kernel
theorem dX4_faultPlace_0 : decode cX4_faultPlace 0 = .ok (.aload_n 0, 1) := by decide +kernel
theorem dX4_faultPlace_1 : decode cX4_faultPlace 1 = .ok (.getfield 12, 3) := by decide +kernel
theorem dX4_faultPlace_4 : decode cX4_faultPlace 4 = .ok (.invokevirtual 22, 3) := by decide +kernel
theorem dX4_faultPlace_7 : decode cX4_faultPlace 7 = .ok (.ireturn, 1) := by decide +kernel
theorem dX4_read_0 : decode cX4_read 0 = .ok (.aload_n 1, 1) := by decide +kernel
theorem dX4_read_1 : decode cX4_read 1 = .ok (.invokevirtual 26, 3) := by decide +kernel
theorem dX4_read_4 : decode cX4_read 4 = .ok (.aload_n 0, 1) := by decide +kernel
theorem dX4_read_5 : decode cX4_read 5 = .ok (.getfield 12, 3) := by decide +kernel
theorem dX4_read_8 : decode cX4_read 8 = .ok (.iload_n 2, 1) := by decide +kernel
theorem dX4_read_9 : decode cX4_read 9 = .ok (.invokevirtual 31, 3) := by decide +kernel
theorem dX4_read_12 : decode cX4_read 12 = .ok (.iconst 0, 1) := by decide +kernel
theorem dX4_read_13 : decode cX4_read 13 = .ok (.istore_n 3, 1) := by decide +kernel
theorem dX4_read_14 : decode cX4_read 14 = .ok (.iload_n 3, 1) := by decide +kernel
theorem dX4_read_15 : decode cX4_read 15 = .ok (.iload_n 2, 1) := by decide +kernel
theorem dX4_read_16 : decode cX4_read 16 = .ok (.if_icmp .gt 53, 3) := by decide +kernel
theorem dX4_read_19 : decode cX4_read 19 = .ok (.aload_n 0, 1) := by decide +kernel
theorem dX4_read_20 : decode cX4_read 20 = .ok (.getfield 12, 3) := by decide +kernel
theorem dX4_read_23 : decode cX4_read 23 = .ok (.invokevirtual 35, 3) := by decide +kernel
theorem dX4_read_26 : decode cX4_read 26 = .ok (.ifCond .eq 43, 3) := by decide +kernel
theorem dX4_read_29 : decode cX4_read 29 = .ok (.aload_n 0, 1) := by decide +kernel
theorem dX4_read_30 : decode cX4_read 30 = .ok (.aload_n 1, 1) := by decide +kernel
theorem dX4_read_31 : decode cX4_read 31 = .ok (.aload_n 0, 1) := by decide +kernel
theorem dX4_read_32 : decode cX4_read 32 = .ok (.getfield 12, 3) := by decide +kernel
theorem dX4_read_35 : decode cX4_read 35 = .ok (.invokevirtual 39, 3) := by decide +kernel
theorem dX4_read_38 : decode cX4_read 38 = .ok (.invokevirtual 42, 3) := by decide +kernel
theorem dX4_read_41 : decode cX4_read 41 = .ok (.aload_n 0, 1) := by decide +kernel
theorem dX4_read_42 : decode cX4_read 42 = .ok (.getfield 12, 3) := by decide +kernel
theorem dX4_read_45 : decode cX4_read 45 = .ok (.invokevirtual 46, 3) := by decide +kernel
theorem dX4_read_48 : decode cX4_read 48 = .ok (.ifCond .eq 6, 3) := by decide +kernel
theorem dX4_read_51 : decode cX4_read 51 = .ok (.goto 18, 3) := by decide +kernel
theorem dX4_read_54 : decode cX4_read 54 = .ok (.aload_n 0, 1) := by decide +kernel
theorem dX4_read_55 : decode cX4_read 55 = .ok (.getfield 12, 3) := by decide +kernel
theorem dX4_read_58 : decode cX4_read 58 = .ok (.bipush 59, 2) := by decide +kernel
theorem dX4_read_60 : decode cX4_read 60 = .ok (.invokevirtual 49, 3) := by decide +kernel
theorem dX4_read_63 : decode cX4_read 63 = .ok (.iinc 3 1, 3) := by decide +kernel
theorem dX4_read_66 : decode cX4_read 66 = .ok (.goto (-52), 3) := by decide +kernel
theorem dX4_read_69 : decode cX4_read 69 = .ok (.aload_n 1, 1) := by decide +kernel
theorem dX4_read_70 : decode cX4_read 70 = .ok (.invokevirtual 53, 3) := by decide +kernel
theorem dX4_read_73 : decode cX4_read 73 = .ok (.ifCond .eq 12, 3) := by decide +kernel
theorem dX4_read_76 : decode cX4_read 76 = .ok (.aload_n 0, 1) := by decide +kernel
theorem dX4_read_77 : decode cX4_read 77 = .ok (.getfield 12, 3) := by decide +kernel
theorem dX4_read_80 : decode cX4_read 80 = .ok (.bipush 6, 2) := by decide +kernel
theorem dX4_read_82 : decode cX4_read 82 = .ok (.invokevirtual 56, 3) := by decide +kernel
theorem dX4_read_85 : decode cX4_read 85 = .ok (.aload_n 0, 1) := by decide +kernel
theorem dX4_read_86 : decode cX4_read 86 = .ok (.getfield 12, 3) := by decide +kernel
theorem dX4_read_89 : decode cX4_read 89 = .ok (.invokevirtual 35, 3) := by decide +kernel
theorem dX4_read_92 : decode cX4_read 92 = .ok (.ifCond .eq 7, 3) := by decide +kernel
theorem dX4_read_95 : decode cX4_read 95 = .ok (.aload_n 1, 1) := by decide +kernel
theorem dX4_read_96 : decode cX4_read 96 = .ok (.invokevirtual 59, 3) := by decide +kernel
theorem dX4_read_99 : decode cX4_read 99 = .ok (.aload_n 0, 1) := by decide +kernel
theorem dX4_read_100 : decode cX4_read 100 = .ok (.getfield 12, 3) := by decide +kernel
theorem dX4_read_103 : decode cX4_read 103 = .ok (.invokevirtual 62, 3) := by decide +kernel
theorem dX4_read_106 : decode cX4_read 106 = .ok (.ireturn, 1) := by decide +kernel
theorem dX4_tellLine_0 : decode cX4_tellLine 0 = .ok (.iload_n 2, 1) := by decide +kernel
theorem dX4_tellLine_1 : decode cX4_tellLine 1 = .ok (.ifCond .lt 9, 3) := by decide +kernel
theorem dX4_tellLine_4 : decode cX4_tellLine 4 = .ok (.iload_n 2, 1) := by decide +kernel
theorem dX4_tellLine_5 : decode cX4_tellLine 5 = .ok (.bipush 13, 2) := by decide +kernel
theorem dX4_tellLine_7 : decode cX4_tellLine 7 = .ok (.if_icmp .lt 12, 3) := by decide +kernel
theorem dX4_tellLine_10 : decode cX4_tellLine 10 = .ok (.aload_n 0, 1) := by decide +kernel
theorem dX4_tellLine_11 : decode cX4_tellLine 11 = .ok (.getfield 12, 3) := by decide +kernel
theorem dX4_tellLine_14 : decode cX4_tellLine 14 = .ok (.iconst 1, 1) := by decide +kernel
theorem dX4_tellLine_15 : decode cX4_tellLine 15 = .ok (.invokevirtual 56, 3) := by decide +kernel
theorem dX4_tellLine_18 : decode cX4_tellLine 18 = .ok (.return_, 1) := by decide +kernel
theorem dX4_tellLine_19 : decode cX4_tellLine 19 = .ok (.aload_n 1, 1) := by decide +kernel
theorem dX4_tellLine_20 : decode cX4_tellLine 20 = .ok (.iload_n 2, 1) := by decide +kernel
theorem dX4_tellLine_21 : decode cX4_tellLine 21 = .ok (.invokevirtual 65, 3) := by decide +kernel
theorem dX4_tellLine_24 : decode cX4_tellLine 24 = .ok (.ifCond .eq 25, 3) := by decide +kernel
theorem dX4_tellLine_27 : decode cX4_tellLine 27 = .ok (.aload_n 0, 1) := by decide +kernel
theorem dX4_tellLine_28 : decode cX4_tellLine 28 = .ok (.getfield 12, 3) := by decide +kernel
theorem dX4_tellLine_31 : decode cX4_tellLine 31 = .ok (.iload_n 2, 1) := by decide +kernel
theorem dX4_tellLine_32 : decode cX4_tellLine 32 = .ok (.ifCond .eq 8, 3) := by decide +kernel
theorem dX4_tellLine_35 : decode cX4_tellLine 35 = .ok (.iload_n 2, 1) := by decide +kernel
theorem dX4_tellLine_36 : decode cX4_tellLine 36 = .ok (.iconst 1, 1) := by decide +kernel
theorem dX4_tellLine_37 : decode cX4_tellLine 37 = .ok (.if_icmp .ne 7, 3) := by decide +kernel
theorem dX4_tellLine_40 : decode cX4_tellLine 40 = .ok (.iconst 3, 1) := by decide +kernel
theorem dX4_tellLine_41 : decode cX4_tellLine 41 = .ok (.goto 4, 3) := by decide +kernel
theorem dX4_tellLine_44 : decode cX4_tellLine 44 = .ok (.iconst 5, 1) := by decide +kernel
theorem dX4_tellLine_45 : decode cX4_tellLine 45 = .ok (.invokevirtual 56, 3) := by decide +kernel
theorem dX4_tellLine_48 : decode cX4_tellLine 48 = .ok (.return_, 1) := by decide +kernel
theorem dX4_tellLine_49 : decode cX4_tellLine 49 = .ok (.aload_n 0, 1) := by decide +kernel
theorem dX4_tellLine_50 : decode cX4_tellLine 50 = .ok (.getfield 12, 3) := by decide +kernel
theorem dX4_tellLine_53 : decode cX4_tellLine 53 = .ok (.invokevirtual 69, 3) := by decide +kernel
theorem dX4_tellLine_56 : decode cX4_tellLine 56 = .ok (.aload_n 1, 1) := by decide +kernel
theorem dX4_tellLine_57 : decode cX4_tellLine 57 = .ok (.iload_n 2, 1) := by decide +kernel
theorem dX4_tellLine_58 : decode cX4_tellLine 58 = .ok (.invokevirtual 72, 3) := by decide +kernel
theorem dX4_tellLine_61 : decode cX4_tellLine 61 = .ok (.iload_n 2, 1) := by decide +kernel
theorem dX4_tellLine_62 : decode cX4_tellLine 62 = .ok (.tableswitch 97 2 12 #[58, 80, 80, 58, 80, 89, 58, 97, 97, 97, 58], 58) := by decide +kernel
theorem dX4_tellLine_120 : decode cX4_tellLine 120 = .ok (.aload_n 0, 1) := by decide +kernel
theorem dX4_tellLine_121 : decode cX4_tellLine 121 = .ok (.getfield 12, 3) := by decide +kernel
theorem dX4_tellLine_124 : decode cX4_tellLine 124 = .ok (.iload_n 2, 1) := by decide +kernel
theorem dX4_tellLine_125 : decode cX4_tellLine 125 = .ok (.aload_n 1, 1) := by decide +kernel
theorem dX4_tellLine_126 : decode cX4_tellLine 126 = .ok (.iload_n 2, 1) := by decide +kernel
theorem dX4_tellLine_127 : decode cX4_tellLine 127 = .ok (.invokevirtual 75, 3) := by decide +kernel
theorem dX4_tellLine_130 : decode cX4_tellLine 130 = .ok (.invokevirtual 79, 3) := by decide +kernel
theorem dX4_tellLine_133 : decode cX4_tellLine 133 = .ok (.aload_n 0, 1) := by decide +kernel
theorem dX4_tellLine_134 : decode cX4_tellLine 134 = .ok (.aload_n 1, 1) := by decide +kernel
theorem dX4_tellLine_135 : decode cX4_tellLine 135 = .ok (.iload_n 2, 1) := by decide +kernel
theorem dX4_tellLine_136 : decode cX4_tellLine 136 = .ok (.invokevirtual 82, 3) := by decide +kernel
theorem dX4_tellLine_139 : decode cX4_tellLine 139 = .ok (.goto 26, 3) := by decide +kernel
theorem dX4_tellLine_142 : decode cX4_tellLine 142 = .ok (.aload_n 0, 1) := by decide +kernel
theorem dX4_tellLine_143 : decode cX4_tellLine 143 = .ok (.aload_n 1, 1) := by decide +kernel
theorem dX4_tellLine_144 : decode cX4_tellLine 144 = .ok (.iload_n 2, 1) := by decide +kernel
theorem dX4_tellLine_145 : decode cX4_tellLine 145 = .ok (.invokevirtual 85, 3) := by decide +kernel
theorem dX4_tellLine_148 : decode cX4_tellLine 148 = .ok (.goto 17, 3) := by decide +kernel
theorem dX4_tellLine_151 : decode cX4_tellLine 151 = .ok (.aload_n 0, 1) := by decide +kernel
theorem dX4_tellLine_152 : decode cX4_tellLine 152 = .ok (.aload_n 1, 1) := by decide +kernel
theorem dX4_tellLine_153 : decode cX4_tellLine 153 = .ok (.invokevirtual 88, 3) := by decide +kernel
theorem dX4_tellLine_156 : decode cX4_tellLine 156 = .ok (.goto 9, 3) := by decide +kernel
theorem dX4_tellLine_159 : decode cX4_tellLine 159 = .ok (.aload_n 0, 1) := by decide +kernel
theorem dX4_tellLine_160 : decode cX4_tellLine 160 = .ok (.aload_n 1, 1) := by decide +kernel
theorem dX4_tellLine_161 : decode cX4_tellLine 161 = .ok (.iload_n 2, 1) := by decide +kernel
theorem dX4_tellLine_162 : decode cX4_tellLine 162 = .ok (.invokevirtual 92, 3) := by decide +kernel
theorem dX4_tellLine_165 : decode cX4_tellLine 165 = .ok (.aload_n 0, 1) := by decide +kernel
theorem dX4_tellLine_166 : decode cX4_tellLine 166 = .ok (.getfield 12, 3) := by decide +kernel
theorem dX4_tellLine_169 : decode cX4_tellLine 169 = .ok (.invokevirtual 35, 3) := by decide +kernel
theorem dX4_tellLine_172 : decode cX4_tellLine 172 = .ok (.ifCond .eq 8, 3) := by decide +kernel
theorem dX4_tellLine_175 : decode cX4_tellLine 175 = .ok (.aload_n 1, 1) := by decide +kernel
theorem dX4_tellLine_176 : decode cX4_tellLine 176 = .ok (.iload_n 2, 1) := by decide +kernel
theorem dX4_tellLine_177 : decode cX4_tellLine 177 = .ok (.invokevirtual 95, 3) := by decide +kernel
theorem dX4_tellLine_180 : decode cX4_tellLine 180 = .ok (.return_, 1) := by decide +kernel
theorem dX4_tellNumbers_0 : decode cX4_tellNumbers 0 = .ok (.iload_n 2, 1) := by decide +kernel
theorem dX4_tellNumbers_1 : decode cX4_tellNumbers 1 = .ok (.lookupswitch 186 #[(0, 43), (1, 91), (9, 124), (10, 166)], 43) := by decide +kernel
theorem dX4_tellNumbers_44 : decode cX4_tellNumbers 44 = .ok (.aload_n 1, 1) := by decide +kernel
theorem dX4_tellNumbers_45 : decode cX4_tellNumbers 45 = .ok (.iconst 0, 1) := by decide +kernel
theorem dX4_tellNumbers_46 : decode cX4_tellNumbers 46 = .ok (.iconst 0, 1) := by decide +kernel
theorem dX4_tellNumbers_47 : decode cX4_tellNumbers 47 = .ok (.aload_n 0, 1) := by decide +kernel
theorem dX4_tellNumbers_48 : decode cX4_tellNumbers 48 = .ok (.ldc 98, 2) := by decide +kernel
theorem dX4_tellNumbers_50 : decode cX4_tellNumbers 50 = .ok (.iconst 2, 1) := by decide +kernel
theorem dX4_tellNumbers_51 : decode cX4_tellNumbers 51 = .ok (.bipush 40, 2) := by decide +kernel
theorem dX4_tellNumbers_53 : decode cX4_tellNumbers 53 = .ok (.invokevirtual 100, 3) := by decide +kernel
theorem dX4_tellNumbers_56 : decode cX4_tellNumbers 56 = .ok (.invokevirtual 104, 3) := by decide +kernel
theorem dX4_tellNumbers_59 : decode cX4_tellNumbers 59 = .ok (.aload_n 1, 1) := by decide +kernel
theorem dX4_tellNumbers_60 : decode cX4_tellNumbers 60 = .ok (.iconst 0, 1) := by decide +kernel
theorem dX4_tellNumbers_61 : decode cX4_tellNumbers 61 = .ok (.iconst 1, 1) := by decide +kernel
theorem dX4_tellNumbers_62 : decode cX4_tellNumbers 62 = .ok (.aload_n 0, 1) := by decide +kernel
theorem dX4_tellNumbers_63 : decode cX4_tellNumbers 63 = .ok (.ldc 108, 2) := by decide +kernel
theorem dX4_tellNumbers_65 : decode cX4_tellNumbers 65 = .ok (.iconst 0, 1) := by decide +kernel
theorem dX4_tellNumbers_66 : decode cX4_tellNumbers 66 = .ok (.bipush 60, 2) := by decide +kernel
theorem dX4_tellNumbers_68 : decode cX4_tellNumbers 68 = .ok (.invokevirtual 100, 3) := by decide +kernel
theorem dX4_tellNumbers_71 : decode cX4_tellNumbers 71 = .ok (.invokevirtual 104, 3) := by decide +kernel
theorem dX4_tellNumbers_74 : decode cX4_tellNumbers 74 = .ok (.aload_n 1, 1) := by decide +kernel
theorem dX4_tellNumbers_75 : decode cX4_tellNumbers 75 = .ok (.iconst 0, 1) := by decide +kernel
theorem dX4_tellNumbers_76 : decode cX4_tellNumbers 76 = .ok (.iconst 2, 1) := by decide +kernel
theorem dX4_tellNumbers_77 : decode cX4_tellNumbers 77 = .ok (.aload_n 0, 1) := by decide +kernel
theorem dX4_tellNumbers_78 : decode cX4_tellNumbers 78 = .ok (.ldc 110, 2) := by decide +kernel
theorem dX4_tellNumbers_80 : decode cX4_tellNumbers 80 = .ok (.iconst 1, 1) := by decide +kernel
theorem dX4_tellNumbers_81 : decode cX4_tellNumbers 81 = .ok (.bipush 60, 2) := by decide +kernel
theorem dX4_tellNumbers_83 : decode cX4_tellNumbers 83 = .ok (.invokevirtual 100, 3) := by decide +kernel
theorem dX4_tellNumbers_86 : decode cX4_tellNumbers 86 = .ok (.invokevirtual 104, 3) := by decide +kernel
theorem dX4_tellNumbers_89 : decode cX4_tellNumbers 89 = .ok (.goto 147, 3) := by decide +kernel
theorem dX4_tellNumbers_92 : decode cX4_tellNumbers 92 = .ok (.aload_n 1, 1) := by decide +kernel
theorem dX4_tellNumbers_93 : decode cX4_tellNumbers 93 = .ok (.iconst 1, 1) := by decide +kernel
theorem dX4_tellNumbers_94 : decode cX4_tellNumbers 94 = .ok (.iconst 0, 1) := by decide +kernel
theorem dX4_tellNumbers_95 : decode cX4_tellNumbers 95 = .ok (.aload_n 0, 1) := by decide +kernel
theorem dX4_tellNumbers_96 : decode cX4_tellNumbers 96 = .ok (.ldc 112, 2) := by decide +kernel
theorem dX4_tellNumbers_98 : decode cX4_tellNumbers 98 = .ok (.iconst 0, 1) := by decide +kernel
theorem dX4_tellNumbers_99 : decode cX4_tellNumbers 99 = .ok (.bipush 90, 2) := by decide +kernel
theorem dX4_tellNumbers_101 : decode cX4_tellNumbers 101 = .ok (.invokevirtual 100, 3) := by decide +kernel
theorem dX4_tellNumbers_104 : decode cX4_tellNumbers 104 = .ok (.invokevirtual 104, 3) := by decide +kernel
theorem dX4_tellNumbers_107 : decode cX4_tellNumbers 107 = .ok (.aload_n 1, 1) := by decide +kernel
theorem dX4_tellNumbers_108 : decode cX4_tellNumbers 108 = .ok (.iconst 1, 1) := by decide +kernel
theorem dX4_tellNumbers_109 : decode cX4_tellNumbers 109 = .ok (.iconst 1, 1) := by decide +kernel
theorem dX4_tellNumbers_110 : decode cX4_tellNumbers 110 = .ok (.aload_n 0, 1) := by decide +kernel
theorem dX4_tellNumbers_111 : decode cX4_tellNumbers 111 = .ok (.ldc 114, 2) := by decide +kernel
theorem dX4_tellNumbers_113 : decode cX4_tellNumbers 113 = .ok (.iconst 0, 1) := by decide +kernel
theorem dX4_tellNumbers_114 : decode cX4_tellNumbers 114 = .ok (.bipush 50, 2) := by decide +kernel
theorem dX4_tellNumbers_116 : decode cX4_tellNumbers 116 = .ok (.invokevirtual 100, 3) := by decide +kernel
theorem dX4_tellNumbers_119 : decode cX4_tellNumbers 119 = .ok (.invokevirtual 104, 3) := by decide +kernel
theorem dX4_tellNumbers_122 : decode cX4_tellNumbers 122 = .ok (.goto 114, 3) := by decide +kernel
theorem dX4_tellNumbers_125 : decode cX4_tellNumbers 125 = .ok (.aload_n 0, 1) := by decide +kernel
theorem dX4_tellNumbers_126 : decode cX4_tellNumbers 126 = .ok (.getfield 12, 3) := by decide +kernel
theorem dX4_tellNumbers_129 : decode cX4_tellNumbers 129 = .ok (.iconst 0, 1) := by decide +kernel
theorem dX4_tellNumbers_130 : decode cX4_tellNumbers 130 = .ok (.sipush 300, 3) := by decide +kernel
theorem dX4_tellNumbers_133 : decode cX4_tellNumbers 133 = .ok (.invokevirtual 116, 3) := by decide +kernel
theorem dX4_tellNumbers_136 : decode cX4_tellNumbers 136 = .ok (.istore_n 3, 1) := by decide +kernel
theorem dX4_tellNumbers_137 : decode cX4_tellNumbers 137 = .ok (.aload_n 1, 1) := by decide +kernel
theorem dX4_tellNumbers_138 : decode cX4_tellNumbers 138 = .ok (.bipush 9, 2) := by decide +kernel
theorem dX4_tellNumbers_140 : decode cX4_tellNumbers 140 = .ok (.iconst 0, 1) := by decide +kernel
theorem dX4_tellNumbers_141 : decode cX4_tellNumbers 141 = .ok (.iload_n 3, 1) := by decide +kernel
theorem dX4_tellNumbers_142 : decode cX4_tellNumbers 142 = .ok (.invokevirtual 104, 3) := by decide +kernel
theorem dX4_tellNumbers_145 : decode cX4_tellNumbers 145 = .ok (.aload_n 1, 1) := by decide +kernel
theorem dX4_tellNumbers_146 : decode cX4_tellNumbers 146 = .ok (.bipush 9, 2) := by decide +kernel
theorem dX4_tellNumbers_148 : decode cX4_tellNumbers 148 = .ok (.iconst 1, 1) := by decide +kernel
theorem dX4_tellNumbers_149 : decode cX4_tellNumbers 149 = .ok (.aload_n 0, 1) := by decide +kernel
theorem dX4_tellNumbers_150 : decode cX4_tellNumbers 150 = .ok (.ldc 120, 2) := by decide +kernel
theorem dX4_tellNumbers_152 : decode cX4_tellNumbers 152 = .ok (.iload_n 3, 1) := by decide +kernel
theorem dX4_tellNumbers_153 : decode cX4_tellNumbers 153 = .ok (.iconst 1, 1) := by decide +kernel
theorem dX4_tellNumbers_154 : decode cX4_tellNumbers 154 = .ok (.iadd, 1) := by decide +kernel
theorem dX4_tellNumbers_155 : decode cX4_tellNumbers 155 = .ok (.sipush 400, 3) := by decide +kernel
theorem dX4_tellNumbers_158 : decode cX4_tellNumbers 158 = .ok (.invokevirtual 100, 3) := by decide +kernel
theorem dX4_tellNumbers_161 : decode cX4_tellNumbers 161 = .ok (.invokevirtual 104, 3) := by decide +kernel
theorem dX4_tellNumbers_164 : decode cX4_tellNumbers 164 = .ok (.goto 72, 3) := by decide +kernel
theorem dX4_tellNumbers_167 : decode cX4_tellNumbers 167 = .ok (.aload_n 1, 1) := by decide +kernel
theorem dX4_tellNumbers_168 : decode cX4_tellNumbers 168 = .ok (.bipush 10, 2) := by decide +kernel
theorem dX4_tellNumbers_170 : decode cX4_tellNumbers 170 = .ok (.iconst 0, 1) := by decide +kernel
theorem dX4_tellNumbers_171 : decode cX4_tellNumbers 171 = .ok (.aload_n 0, 1) := by decide +kernel
theorem dX4_tellNumbers_172 : decode cX4_tellNumbers 172 = .ok (.getfield 12, 3) := by decide +kernel
theorem dX4_tellNumbers_175 : decode cX4_tellNumbers 175 = .ok (.iconst 1, 1) := by decide +kernel
theorem dX4_tellNumbers_176 : decode cX4_tellNumbers 176 = .ok (.bipush 40, 2) := by decide +kernel
theorem dX4_tellNumbers_178 : decode cX4_tellNumbers 178 = .ok (.invokevirtual 116, 3) := by decide +kernel
theorem dX4_tellNumbers_181 : decode cX4_tellNumbers 181 = .ok (.invokevirtual 104, 3) := by decide +kernel
theorem dX4_tellNumbers_184 : decode cX4_tellNumbers 184 = .ok (.goto 52, 3) := by decide +kernel
theorem dX4_tellNumbers_187 : decode cX4_tellNumbers 187 = .ok (.aload_n 1, 1) := by decide +kernel
theorem dX4_tellNumbers_188 : decode cX4_tellNumbers 188 = .ok (.bipush 11, 2) := by decide +kernel
theorem dX4_tellNumbers_190 : decode cX4_tellNumbers 190 = .ok (.iconst 0, 1) := by decide +kernel
theorem dX4_tellNumbers_191 : decode cX4_tellNumbers 191 = .ok (.aload_n 0, 1) := by decide +kernel
theorem dX4_tellNumbers_192 : decode cX4_tellNumbers 192 = .ok (.ldc 122, 2) := by decide +kernel
theorem dX4_tellNumbers_194 : decode cX4_tellNumbers 194 = .ok (.iconst 0, 1) := by decide +kernel
theorem dX4_tellNumbers_195 : decode cX4_tellNumbers 195 = .ok (.sipush 300, 3) := by decide +kernel
theorem dX4_tellNumbers_198 : decode cX4_tellNumbers 198 = .ok (.invokevirtual 100, 3) := by decide +kernel
theorem dX4_tellNumbers_201 : decode cX4_tellNumbers 201 = .ok (.invokevirtual 104, 3) := by decide +kernel
theorem dX4_tellNumbers_204 : decode cX4_tellNumbers 204 = .ok (.aload_n 1, 1) := by decide +kernel
theorem dX4_tellNumbers_205 : decode cX4_tellNumbers 205 = .ok (.bipush 11, 2) := by decide +kernel
theorem dX4_tellNumbers_207 : decode cX4_tellNumbers 207 = .ok (.iconst 1, 1) := by decide +kernel
theorem dX4_tellNumbers_208 : decode cX4_tellNumbers 208 = .ok (.aload_n 0, 1) := by decide +kernel
theorem dX4_tellNumbers_209 : decode cX4_tellNumbers 209 = .ok (.ldc 124, 2) := by decide +kernel
theorem dX4_tellNumbers_211 : decode cX4_tellNumbers 211 = .ok (.iconst 1, 1) := by decide +kernel
theorem dX4_tellNumbers_212 : decode cX4_tellNumbers 212 = .ok (.bipush 40, 2) := by decide +kernel
theorem dX4_tellNumbers_214 : decode cX4_tellNumbers 214 = .ok (.invokevirtual 100, 3) := by decide +kernel
theorem dX4_tellNumbers_217 : decode cX4_tellNumbers 217 = .ok (.invokevirtual 104, 3) := by decide +kernel
theorem dX4_tellNumbers_220 : decode cX4_tellNumbers 220 = .ok (.aload_n 1, 1) := by decide +kernel
theorem dX4_tellNumbers_221 : decode cX4_tellNumbers 221 = .ok (.bipush 11, 2) := by decide +kernel
theorem dX4_tellNumbers_223 : decode cX4_tellNumbers 223 = .ok (.iconst 2, 1) := by decide +kernel
theorem dX4_tellNumbers_224 : decode cX4_tellNumbers 224 = .ok (.aload_n 0, 1) := by decide +kernel
theorem dX4_tellNumbers_225 : decode cX4_tellNumbers 225 = .ok (.ldc 120, 2) := by decide +kernel
theorem dX4_tellNumbers_227 : decode cX4_tellNumbers 227 = .ok (.iconst 1, 1) := by decide +kernel
theorem dX4_tellNumbers_228 : decode cX4_tellNumbers 228 = .ok (.bipush 40, 2) := by decide +kernel
theorem dX4_tellNumbers_230 : decode cX4_tellNumbers 230 = .ok (.invokevirtual 100, 3) := by decide +kernel
theorem dX4_tellNumbers_233 : decode cX4_tellNumbers 233 = .ok (.invokevirtual 104, 3) := by decide +kernel
theorem dX4_tellNumbers_236 : decode cX4_tellNumbers 236 = .ok (.return_, 1) := by decide +kernel
theorem dX4_tellNamedThing_0 : decode cX4_tellNamedThing 0 = .ok (.iload_n 2, 1) := by decide +kernel
theorem dX4_tellNamedThing_1 : decode cX4_tellNamedThing 1 = .ok (.lookupswitch 193 #[(2, 35), (5, 68), (8, 113)], 35) := by decide +kernel
theorem dX4_tellNamedThing_36 : decode cX4_tellNamedThing 36 = .ok (.aload_n 1, 1) := by decide +kernel
theorem dX4_tellNamedThing_37 : decode cX4_tellNamedThing 37 = .ok (.iconst 2, 1) := by decide +kernel
theorem dX4_tellNamedThing_38 : decode cX4_tellNamedThing 38 = .ok (.iconst 0, 1) := by decide +kernel
theorem dX4_tellNamedThing_39 : decode cX4_tellNamedThing 39 = .ok (.aload_n 0, 1) := by decide +kernel
theorem dX4_tellNamedThing_40 : decode cX4_tellNamedThing 40 = .ok (.ldc 126, 2) := by decide +kernel
theorem dX4_tellNamedThing_42 : decode cX4_tellNamedThing 42 = .ok (.iconst 1, 1) := by decide +kernel
theorem dX4_tellNamedThing_43 : decode cX4_tellNamedThing 43 = .ok (.bipush 8, 2) := by decide +kernel
theorem dX4_tellNamedThing_45 : decode cX4_tellNamedThing 45 = .ok (.invokevirtual 100, 3) := by decide +kernel
theorem dX4_tellNamedThing_48 : decode cX4_tellNamedThing 48 = .ok (.invokevirtual 104, 3) := by decide +kernel
theorem dX4_tellNamedThing_51 : decode cX4_tellNamedThing 51 = .ok (.aload_n 1, 1) := by decide +kernel
theorem dX4_tellNamedThing_52 : decode cX4_tellNamedThing 52 = .ok (.iconst 2, 1) := by decide +kernel
theorem dX4_tellNamedThing_53 : decode cX4_tellNamedThing 53 = .ok (.iconst 1, 1) := by decide +kernel
theorem dX4_tellNamedThing_54 : decode cX4_tellNamedThing 54 = .ok (.aload_n 0, 1) := by decide +kernel
theorem dX4_tellNamedThing_55 : decode cX4_tellNamedThing 55 = .ok (.ldc 128, 2) := by decide +kernel
theorem dX4_tellNamedThing_57 : decode cX4_tellNamedThing 57 = .ok (.iconst 0, 1) := by decide +kernel
theorem dX4_tellNamedThing_58 : decode cX4_tellNamedThing 58 = .ok (.bipush 99, 2) := by decide +kernel
theorem dX4_tellNamedThing_60 : decode cX4_tellNamedThing 60 = .ok (.invokevirtual 100, 3) := by decide +kernel
theorem dX4_tellNamedThing_63 : decode cX4_tellNamedThing 63 = .ok (.invokevirtual 104, 3) := by decide +kernel
theorem dX4_tellNamedThing_66 : decode cX4_tellNamedThing 66 = .ok (.goto 144, 3) := by decide +kernel
theorem dX4_tellNamedThing_69 : decode cX4_tellNamedThing 69 = .ok (.aload_n 1, 1) := by decide +kernel
theorem dX4_tellNamedThing_70 : decode cX4_tellNamedThing 70 = .ok (.iconst 5, 1) := by decide +kernel
theorem dX4_tellNamedThing_71 : decode cX4_tellNamedThing 71 = .ok (.iconst 0, 1) := by decide +kernel
theorem dX4_tellNamedThing_72 : decode cX4_tellNamedThing 72 = .ok (.aload_n 0, 1) := by decide +kernel
theorem dX4_tellNamedThing_73 : decode cX4_tellNamedThing 73 = .ok (.aload_n 1, 1) := by decide +kernel
theorem dX4_tellNamedThing_74 : decode cX4_tellNamedThing 74 = .ok (.invokevirtual 130, 3) := by decide +kernel
theorem dX4_tellNamedThing_77 : decode cX4_tellNamedThing 77 = .ok (.invokevirtual 104, 3) := by decide +kernel
theorem dX4_tellNamedThing_80 : decode cX4_tellNamedThing 80 = .ok (.aload_n 1, 1) := by decide +kernel
theorem dX4_tellNamedThing_81 : decode cX4_tellNamedThing 81 = .ok (.iconst 5, 1) := by decide +kernel
theorem dX4_tellNamedThing_82 : decode cX4_tellNamedThing 82 = .ok (.iconst 1, 1) := by decide +kernel
theorem dX4_tellNamedThing_83 : decode cX4_tellNamedThing 83 = .ok (.aload_n 0, 1) := by decide +kernel
theorem dX4_tellNamedThing_84 : decode cX4_tellNamedThing 84 = .ok (.ldc 134, 2) := by decide +kernel
theorem dX4_tellNamedThing_86 : decode cX4_tellNamedThing 86 = .ok (.iconst 1, 1) := by decide +kernel
theorem dX4_tellNamedThing_87 : decode cX4_tellNamedThing 87 = .ok (.bipush 14, 2) := by decide +kernel
theorem dX4_tellNamedThing_89 : decode cX4_tellNamedThing 89 = .ok (.invokevirtual 100, 3) := by decide +kernel
theorem dX4_tellNamedThing_92 : decode cX4_tellNamedThing 92 = .ok (.invokevirtual 104, 3) := by decide +kernel
theorem dX4_tellNamedThing_95 : decode cX4_tellNamedThing 95 = .ok (.aload_n 1, 1) := by decide +kernel
theorem dX4_tellNamedThing_96 : decode cX4_tellNamedThing 96 = .ok (.iconst 5, 1) := by decide +kernel
theorem dX4_tellNamedThing_97 : decode cX4_tellNamedThing 97 = .ok (.iconst 2, 1) := by decide +kernel
theorem dX4_tellNamedThing_98 : decode cX4_tellNamedThing 98 = .ok (.aload_n 0, 1) := by decide +kernel
theorem dX4_tellNamedThing_99 : decode cX4_tellNamedThing 99 = .ok (.ldc 136, 2) := by decide +kernel
theorem dX4_tellNamedThing_101 : decode cX4_tellNamedThing 101 = .ok (.bipush 8, 2) := by decide +kernel
theorem dX4_tellNamedThing_103 : decode cX4_tellNamedThing 103 = .ok (.bipush 40, 2) := by decide +kernel
theorem dX4_tellNamedThing_105 : decode cX4_tellNamedThing 105 = .ok (.invokevirtual 100, 3) := by decide +kernel
theorem dX4_tellNamedThing_108 : decode cX4_tellNamedThing 108 = .ok (.invokevirtual 104, 3) := by decide +kernel
theorem dX4_tellNamedThing_111 : decode cX4_tellNamedThing 111 = .ok (.goto 99, 3) := by decide +kernel
theorem dX4_tellNamedThing_114 : decode cX4_tellNamedThing 114 = .ok (.aload_n 1, 1) := by decide +kernel
theorem dX4_tellNamedThing_115 : decode cX4_tellNamedThing 115 = .ok (.bipush 8, 2) := by decide +kernel
theorem dX4_tellNamedThing_117 : decode cX4_tellNamedThing 117 = .ok (.iconst 0, 1) := by decide +kernel
theorem dX4_tellNamedThing_118 : decode cX4_tellNamedThing 118 = .ok (.aload_n 0, 1) := by decide +kernel
theorem dX4_tellNamedThing_119 : decode cX4_tellNamedThing 119 = .ok (.ldc 138, 2) := by decide +kernel
theorem dX4_tellNamedThing_121 : decode cX4_tellNamedThing 121 = .ok (.iconst 1, 1) := by decide +kernel
theorem dX4_tellNamedThing_122 : decode cX4_tellNamedThing 122 = .ok (.bipush 40, 2) := by decide +kernel
theorem dX4_tellNamedThing_124 : decode cX4_tellNamedThing 124 = .ok (.invokevirtual 100, 3) := by decide +kernel
theorem dX4_tellNamedThing_127 : decode cX4_tellNamedThing 127 = .ok (.invokevirtual 104, 3) := by decide +kernel
theorem dX4_tellNamedThing_130 : decode cX4_tellNamedThing 130 = .ok (.aload_n 0, 1) := by decide +kernel
theorem dX4_tellNamedThing_131 : decode cX4_tellNamedThing 131 = .ok (.getfield 12, 3) := by decide +kernel
theorem dX4_tellNamedThing_134 : decode cX4_tellNamedThing 134 = .ok (.ldc 140, 2) := by decide +kernel
theorem dX4_tellNamedThing_136 : decode cX4_tellNamedThing 136 = .ok (.invokevirtual 142, 3) := by decide +kernel
theorem dX4_tellNamedThing_139 : decode cX4_tellNamedThing 139 = .ok (.aload_n 1, 1) := by decide +kernel
theorem dX4_tellNamedThing_140 : decode cX4_tellNamedThing 140 = .ok (.bipush 8, 2) := by decide +kernel
theorem dX4_tellNamedThing_142 : decode cX4_tellNamedThing 142 = .ok (.iconst 1, 1) := by decide +kernel
theorem dX4_tellNamedThing_143 : decode cX4_tellNamedThing 143 = .ok (.aload_n 0, 1) := by decide +kernel
theorem dX4_tellNamedThing_144 : decode cX4_tellNamedThing 144 = .ok (.getfield 12, 3) := by decide +kernel
theorem dX4_tellNamedThing_147 : decode cX4_tellNamedThing 147 = .ok (.iconst 2, 1) := by decide +kernel
theorem dX4_tellNamedThing_148 : decode cX4_tellNamedThing 148 = .ok (.invokevirtual 146, 3) := by decide +kernel
theorem dX4_tellNamedThing_151 : decode cX4_tellNamedThing 151 = .ok (.invokevirtual 104, 3) := by decide +kernel
theorem dX4_tellNamedThing_154 : decode cX4_tellNamedThing 154 = .ok (.aload_n 0, 1) := by decide +kernel
theorem dX4_tellNamedThing_155 : decode cX4_tellNamedThing 155 = .ok (.getfield 12, 3) := by decide +kernel
theorem dX4_tellNamedThing_158 : decode cX4_tellNamedThing 158 = .ok (.invokevirtual 35, 3) := by decide +kernel
theorem dX4_tellNamedThing_161 : decode cX4_tellNamedThing 161 = .ok (.ifCond .eq 49, 3) := by decide +kernel
theorem dX4_tellNamedThing_164 : decode cX4_tellNamedThing 164 = .ok (.aload_n 0, 1) := by decide +kernel
theorem dX4_tellNamedThing_165 : decode cX4_tellNamedThing 165 = .ok (.getfield 12, 3) := by decide +kernel
theorem dX4_tellNamedThing_168 : decode cX4_tellNamedThing 168 = .ok (.ldc 149, 2) := by decide +kernel
theorem dX4_tellNamedThing_170 : decode cX4_tellNamedThing 170 = .ok (.invokevirtual 151, 3) := by decide +kernel
theorem dX4_tellNamedThing_173 : decode cX4_tellNamedThing 173 = .ok (.ifCond .eq 37, 3) := by decide +kernel
theorem dX4_tellNamedThing_176 : decode cX4_tellNamedThing 176 = .ok (.aload_n 1, 1) := by decide +kernel
theorem dX4_tellNamedThing_177 : decode cX4_tellNamedThing 177 = .ok (.bipush 8, 2) := by decide +kernel
theorem dX4_tellNamedThing_179 : decode cX4_tellNamedThing 179 = .ok (.iconst 2, 1) := by decide +kernel
theorem dX4_tellNamedThing_180 : decode cX4_tellNamedThing 180 = .ok (.iconst 1, 1) := by decide +kernel
theorem dX4_tellNamedThing_181 : decode cX4_tellNamedThing 181 = .ok (.invokevirtual 104, 3) := by decide +kernel
theorem dX4_tellNamedThing_184 : decode cX4_tellNamedThing 184 = .ok (.aload_n 0, 1) := by decide +kernel
theorem dX4_tellNamedThing_185 : decode cX4_tellNamedThing 185 = .ok (.getfield 12, 3) := by decide +kernel
theorem dX4_tellNamedThing_188 : decode cX4_tellNamedThing 188 = .ok (.invokevirtual 69, 3) := by decide +kernel
theorem dX4_tellNamedThing_191 : decode cX4_tellNamedThing 191 = .ok (.goto 19, 3) := by decide +kernel
theorem dX4_tellNamedThing_194 : decode cX4_tellNamedThing 194 = .ok (.aload_n 1, 1) := by decide +kernel
theorem dX4_tellNamedThing_195 : decode cX4_tellNamedThing 195 = .ok (.bipush 12, 2) := by decide +kernel
theorem dX4_tellNamedThing_197 : decode cX4_tellNamedThing 197 = .ok (.iconst 0, 1) := by decide +kernel
theorem dX4_tellNamedThing_198 : decode cX4_tellNamedThing 198 = .ok (.aload_n 0, 1) := by decide +kernel
theorem dX4_tellNamedThing_199 : decode cX4_tellNamedThing 199 = .ok (.ldc 155, 2) := by decide +kernel
theorem dX4_tellNamedThing_201 : decode cX4_tellNamedThing 201 = .ok (.iconst 1, 1) := by decide +kernel
theorem dX4_tellNamedThing_202 : decode cX4_tellNamedThing 202 = .ok (.bipush 99, 2) := by decide +kernel
theorem dX4_tellNamedThing_204 : decode cX4_tellNamedThing 204 = .ok (.invokevirtual 100, 3) := by decide +kernel
theorem dX4_tellNamedThing_207 : decode cX4_tellNamedThing 207 = .ok (.invokevirtual 104, 3) := by decide +kernel
theorem dX4_tellNamedThing_210 : decode cX4_tellNamedThing 210 = .ok (.return_, 1) := by decide +kernel
theorem dX4_tellOfNames_0 : decode cX4_tellOfNames 0 = .ok (.iload_n 2, 1) := by decide +kernel
theorem dX4_tellOfNames_1 : decode cX4_tellOfNames 1 = .ok (.lookupswitch 116 #[(3, 27), (4, 60)], 27) := by decide +kernel
theorem dX4_tellOfNames_28 : decode cX4_tellOfNames 28 = .ok (.aload_n 1, 1) := by decide +kernel
theorem dX4_tellOfNames_29 : decode cX4_tellOfNames 29 = .ok (.iconst 3, 1) := by decide +kernel
theorem dX4_tellOfNames_30 : decode cX4_tellOfNames 30 = .ok (.iconst 0, 1) := by decide +kernel
theorem dX4_tellOfNames_31 : decode cX4_tellOfNames 31 = .ok (.aload_n 0, 1) := by decide +kernel
theorem dX4_tellOfNames_32 : decode cX4_tellOfNames 32 = .ok (.getfield 12, 3) := by decide +kernel
theorem dX4_tellOfNames_35 : decode cX4_tellOfNames 35 = .ok (.iconst 2, 1) := by decide +kernel
theorem dX4_tellOfNames_36 : decode cX4_tellOfNames 36 = .ok (.invokevirtual 146, 3) := by decide +kernel
theorem dX4_tellOfNames_39 : decode cX4_tellOfNames 39 = .ok (.invokevirtual 104, 3) := by decide +kernel
theorem dX4_tellOfNames_42 : decode cX4_tellOfNames 42 = .ok (.aload_n 1, 1) := by decide +kernel
theorem dX4_tellOfNames_43 : decode cX4_tellOfNames 43 = .ok (.iconst 3, 1) := by decide +kernel
theorem dX4_tellOfNames_44 : decode cX4_tellOfNames 44 = .ok (.iconst 1, 1) := by decide +kernel
theorem dX4_tellOfNames_45 : decode cX4_tellOfNames 45 = .ok (.aload_n 0, 1) := by decide +kernel
theorem dX4_tellOfNames_46 : decode cX4_tellOfNames 46 = .ok (.ldc 122, 2) := by decide +kernel
theorem dX4_tellOfNames_48 : decode cX4_tellOfNames 48 = .ok (.iconst 0, 1) := by decide +kernel
theorem dX4_tellOfNames_49 : decode cX4_tellOfNames 49 = .ok (.sipush 300, 3) := by decide +kernel
theorem dX4_tellOfNames_52 : decode cX4_tellOfNames 52 = .ok (.invokevirtual 100, 3) := by decide +kernel
theorem dX4_tellOfNames_55 : decode cX4_tellOfNames 55 = .ok (.invokevirtual 104, 3) := by decide +kernel
theorem dX4_tellOfNames_58 : decode cX4_tellOfNames 58 = .ok (.goto 105, 3) := by decide +kernel
theorem dX4_tellOfNames_61 : decode cX4_tellOfNames 61 = .ok (.aload_n 1, 1) := by decide +kernel
theorem dX4_tellOfNames_62 : decode cX4_tellOfNames 62 = .ok (.iconst 4, 1) := by decide +kernel
theorem dX4_tellOfNames_63 : decode cX4_tellOfNames 63 = .ok (.iconst 0, 1) := by decide +kernel
theorem dX4_tellOfNames_64 : decode cX4_tellOfNames 64 = .ok (.aload_n 0, 1) := by decide +kernel
theorem dX4_tellOfNames_65 : decode cX4_tellOfNames 65 = .ok (.getfield 12, 3) := by decide +kernel
theorem dX4_tellOfNames_68 : decode cX4_tellOfNames 68 = .ok (.iconst 2, 1) := by decide +kernel
theorem dX4_tellOfNames_69 : decode cX4_tellOfNames 69 = .ok (.invokevirtual 146, 3) := by decide +kernel
theorem dX4_tellOfNames_72 : decode cX4_tellOfNames 72 = .ok (.invokevirtual 104, 3) := by decide +kernel
theorem dX4_tellOfNames_75 : decode cX4_tellOfNames 75 = .ok (.aload_n 0, 1) := by decide +kernel
theorem dX4_tellOfNames_76 : decode cX4_tellOfNames 76 = .ok (.getfield 12, 3) := by decide +kernel
theorem dX4_tellOfNames_79 : decode cX4_tellOfNames 79 = .ok (.iconst 0, 1) := by decide +kernel
theorem dX4_tellOfNames_80 : decode cX4_tellOfNames 80 = .ok (.sipush 999, 3) := by decide +kernel
theorem dX4_tellOfNames_83 : decode cX4_tellOfNames 83 = .ok (.invokevirtual 116, 3) := by decide +kernel
theorem dX4_tellOfNames_86 : decode cX4_tellOfNames 86 = .ok (.istore_n 3, 1) := by decide +kernel
theorem dX4_tellOfNames_87 : decode cX4_tellOfNames 87 = .ok (.aload_n 1, 1) := by decide +kernel
theorem dX4_tellOfNames_88 : decode cX4_tellOfNames 88 = .ok (.iconst 4, 1) := by decide +kernel
theorem dX4_tellOfNames_89 : decode cX4_tellOfNames 89 = .ok (.iconst 1, 1) := by decide +kernel
theorem dX4_tellOfNames_90 : decode cX4_tellOfNames 90 = .ok (.iload_n 3, 1) := by decide +kernel
theorem dX4_tellOfNames_91 : decode cX4_tellOfNames 91 = .ok (.invokevirtual 104, 3) := by decide +kernel
theorem dX4_tellOfNames_94 : decode cX4_tellOfNames 94 = .ok (.aload_n 1, 1) := by decide +kernel
theorem dX4_tellOfNames_95 : decode cX4_tellOfNames 95 = .ok (.iconst 4, 1) := by decide +kernel
theorem dX4_tellOfNames_96 : decode cX4_tellOfNames 96 = .ok (.iconst 2, 1) := by decide +kernel
theorem dX4_tellOfNames_97 : decode cX4_tellOfNames 97 = .ok (.aload_n 0, 1) := by decide +kernel
theorem dX4_tellOfNames_98 : decode cX4_tellOfNames 98 = .ok (.ldc 157, 2) := by decide +kernel
theorem dX4_tellOfNames_100 : decode cX4_tellOfNames 100 = .ok (.iconst 1, 1) := by decide +kernel
theorem dX4_tellOfNames_101 : decode cX4_tellOfNames 101 = .ok (.iload_n 3, 1) := by decide +kernel
theorem dX4_tellOfNames_102 : decode cX4_tellOfNames 102 = .ok (.invokestatic 159, 3) := by decide +kernel
theorem dX4_tellOfNames_105 : decode cX4_tellOfNames 105 = .ok (.sipush 999, 3) := by decide +kernel
theorem dX4_tellOfNames_108 : decode cX4_tellOfNames 108 = .ok (.invokevirtual 100, 3) := by decide +kernel
theorem dX4_tellOfNames_111 : decode cX4_tellOfNames 111 = .ok (.invokevirtual 104, 3) := by decide +kernel
theorem dX4_tellOfNames_114 : decode cX4_tellOfNames 114 = .ok (.goto 49, 3) := by decide +kernel
theorem dX4_tellOfNames_117 : decode cX4_tellOfNames 117 = .ok (.aload_n 1, 1) := by decide +kernel
theorem dX4_tellOfNames_118 : decode cX4_tellOfNames 118 = .ok (.bipush 6, 2) := by decide +kernel
theorem dX4_tellOfNames_120 : decode cX4_tellOfNames 120 = .ok (.iconst 0, 1) := by decide +kernel
theorem dX4_tellOfNames_121 : decode cX4_tellOfNames 121 = .ok (.aload_n 0, 1) := by decide +kernel
theorem dX4_tellOfNames_122 : decode cX4_tellOfNames 122 = .ok (.getfield 12, 3) := by decide +kernel
theorem dX4_tellOfNames_125 : decode cX4_tellOfNames 125 = .ok (.iconst 5, 1) := by decide +kernel
theorem dX4_tellOfNames_126 : decode cX4_tellOfNames 126 = .ok (.invokevirtual 146, 3) := by decide +kernel
theorem dX4_tellOfNames_129 : decode cX4_tellOfNames 129 = .ok (.invokevirtual 104, 3) := by decide +kernel
theorem dX4_tellOfNames_132 : decode cX4_tellOfNames 132 = .ok (.aload_n 1, 1) := by decide +kernel
theorem dX4_tellOfNames_133 : decode cX4_tellOfNames 133 = .ok (.bipush 6, 2) := by decide +kernel
theorem dX4_tellOfNames_135 : decode cX4_tellOfNames 135 = .ok (.iconst 1, 1) := by decide +kernel
theorem dX4_tellOfNames_136 : decode cX4_tellOfNames 136 = .ok (.aload_n 0, 1) := by decide +kernel
theorem dX4_tellOfNames_137 : decode cX4_tellOfNames 137 = .ok (.getfield 12, 3) := by decide +kernel
theorem dX4_tellOfNames_140 : decode cX4_tellOfNames 140 = .ok (.iconst 2, 1) := by decide +kernel
theorem dX4_tellOfNames_141 : decode cX4_tellOfNames 141 = .ok (.invokevirtual 146, 3) := by decide +kernel
theorem dX4_tellOfNames_144 : decode cX4_tellOfNames 144 = .ok (.invokevirtual 104, 3) := by decide +kernel
theorem dX4_tellOfNames_147 : decode cX4_tellOfNames 147 = .ok (.aload_n 1, 1) := by decide +kernel
theorem dX4_tellOfNames_148 : decode cX4_tellOfNames 148 = .ok (.bipush 6, 2) := by decide +kernel
theorem dX4_tellOfNames_150 : decode cX4_tellOfNames 150 = .ok (.iconst 2, 1) := by decide +kernel
theorem dX4_tellOfNames_151 : decode cX4_tellOfNames 151 = .ok (.aload_n 0, 1) := by decide +kernel
theorem dX4_tellOfNames_152 : decode cX4_tellOfNames 152 = .ok (.ldc 164, 2) := by decide +kernel
theorem dX4_tellOfNames_154 : decode cX4_tellOfNames 154 = .ok (.iconst 1, 1) := by decide +kernel
theorem dX4_tellOfNames_155 : decode cX4_tellOfNames 155 = .ok (.bipush 99, 2) := by decide +kernel
theorem dX4_tellOfNames_157 : decode cX4_tellOfNames 157 = .ok (.invokevirtual 100, 3) := by decide +kernel
theorem dX4_tellOfNames_160 : decode cX4_tellOfNames 160 = .ok (.invokevirtual 104, 3) := by decide +kernel
theorem dX4_tellOfNames_163 : decode cX4_tellOfNames 163 = .ok (.return_, 1) := by decide +kernel
theorem dX4_tellBlock_0 : decode cX4_tellBlock 0 = .ok (.aload_n 0, 1) := by decide +kernel
theorem dX4_tellBlock_1 : decode cX4_tellBlock 1 = .ok (.getfield 12, 3) := by decide +kernel
theorem dX4_tellBlock_4 : decode cX4_tellBlock 4 = .ok (.iconst 1, 1) := by decide +kernel
theorem dX4_tellBlock_5 : decode cX4_tellBlock 5 = .ok (.bipush 40, 2) := by decide +kernel
theorem dX4_tellBlock_7 : decode cX4_tellBlock 7 = .ok (.invokevirtual 116, 3) := by decide +kernel
theorem dX4_tellBlock_10 : decode cX4_tellBlock 10 = .ok (.istore_n 2, 1) := by decide +kernel
theorem dX4_tellBlock_11 : decode cX4_tellBlock 11 = .ok (.aload_n 1, 1) := by decide +kernel
theorem dX4_tellBlock_12 : decode cX4_tellBlock 12 = .ok (.bipush 7, 2) := by decide +kernel
theorem dX4_tellBlock_14 : decode cX4_tellBlock 14 = .ok (.iconst 0, 1) := by decide +kernel
theorem dX4_tellBlock_15 : decode cX4_tellBlock 15 = .ok (.iload_n 2, 1) := by decide +kernel
theorem dX4_tellBlock_16 : decode cX4_tellBlock 16 = .ok (.invokevirtual 104, 3) := by decide +kernel
theorem dX4_tellBlock_19 : decode cX4_tellBlock 19 = .ok (.aload_n 1, 1) := by decide +kernel
theorem dX4_tellBlock_20 : decode cX4_tellBlock 20 = .ok (.bipush 7, 2) := by decide +kernel
theorem dX4_tellBlock_22 : decode cX4_tellBlock 22 = .ok (.iconst 1, 1) := by decide +kernel
theorem dX4_tellBlock_23 : decode cX4_tellBlock 23 = .ok (.aload_n 0, 1) := by decide +kernel
theorem dX4_tellBlock_24 : decode cX4_tellBlock 24 = .ok (.ldc 120, 2) := by decide +kernel
theorem dX4_tellBlock_26 : decode cX4_tellBlock 26 = .ok (.iload_n 2, 1) := by decide +kernel
theorem dX4_tellBlock_27 : decode cX4_tellBlock 27 = .ok (.bipush 40, 2) := by decide +kernel
theorem dX4_tellBlock_29 : decode cX4_tellBlock 29 = .ok (.invokevirtual 100, 3) := by decide +kernel
theorem dX4_tellBlock_32 : decode cX4_tellBlock 32 = .ok (.invokevirtual 104, 3) := by decide +kernel
theorem dX4_tellBlock_35 : decode cX4_tellBlock 35 = .ok (.aload_n 1, 1) := by decide +kernel
theorem dX4_tellBlock_36 : decode cX4_tellBlock 36 = .ok (.bipush 7, 2) := by decide +kernel
theorem dX4_tellBlock_38 : decode cX4_tellBlock 38 = .ok (.iconst 2, 1) := by decide +kernel
theorem dX4_tellBlock_39 : decode cX4_tellBlock 39 = .ok (.aload_n 0, 1) := by decide +kernel
theorem dX4_tellBlock_40 : decode cX4_tellBlock 40 = .ok (.ldc 166, 2) := by decide +kernel
theorem dX4_tellBlock_42 : decode cX4_tellBlock 42 = .ok (.iconst 1, 1) := by decide +kernel
theorem dX4_tellBlock_43 : decode cX4_tellBlock 43 = .ok (.bipush 9, 2) := by decide +kernel
theorem dX4_tellBlock_45 : decode cX4_tellBlock 45 = .ok (.invokevirtual 100, 3) := by decide +kernel
theorem dX4_tellBlock_48 : decode cX4_tellBlock 48 = .ok (.invokevirtual 104, 3) := by decide +kernel
theorem dX4_tellBlock_51 : decode cX4_tellBlock 51 = .ok (.aload_n 0, 1) := by decide +kernel
theorem dX4_tellBlock_52 : decode cX4_tellBlock 52 = .ok (.getfield 12, 3) := by decide +kernel
theorem dX4_tellBlock_55 : decode cX4_tellBlock 55 = .ok (.ldc 168, 2) := by decide +kernel
theorem dX4_tellBlock_57 : decode cX4_tellBlock 57 = .ok (.invokevirtual 142, 3) := by decide +kernel
theorem dX4_tellBlock_60 : decode cX4_tellBlock 60 = .ok (.aload_n 0, 1) := by decide +kernel
theorem dX4_tellBlock_61 : decode cX4_tellBlock 61 = .ok (.aload_n 1, 1) := by decide +kernel
theorem dX4_tellBlock_62 : decode cX4_tellBlock 62 = .ok (.invokevirtual 170, 3) := by decide +kernel
theorem dX4_tellBlock_65 : decode cX4_tellBlock 65 = .ok (.iconst 0, 1) := by decide +kernel
theorem dX4_tellBlock_66 : decode cX4_tellBlock 66 = .ok (.istore_n 3, 1) := by decide +kernel
theorem dX4_tellBlock_67 : decode cX4_tellBlock 67 = .ok (.iload_n 3, 1) := by decide +kernel
theorem dX4_tellBlock_68 : decode cX4_tellBlock 68 = .ok (.iconst 4, 1) := by decide +kernel
theorem dX4_tellBlock_69 : decode cX4_tellBlock 69 = .ok (.if_icmp .ge 43, 3) := by decide +kernel
theorem dX4_tellBlock_72 : decode cX4_tellBlock 72 = .ok (.aload_n 0, 1) := by decide +kernel
theorem dX4_tellBlock_73 : decode cX4_tellBlock 73 = .ok (.getfield 12, 3) := by decide +kernel
theorem dX4_tellBlock_76 : decode cX4_tellBlock 76 = .ok (.invokevirtual 35, 3) := by decide +kernel
theorem dX4_tellBlock_79 : decode cX4_tellBlock 79 = .ok (.ifCond .eq 33, 3) := by decide +kernel
theorem dX4_tellBlock_82 : decode cX4_tellBlock 82 = .ok (.aload_n 0, 1) := by decide +kernel
theorem dX4_tellBlock_83 : decode cX4_tellBlock 83 = .ok (.getfield 12, 3) := by decide +kernel
theorem dX4_tellBlock_86 : decode cX4_tellBlock 86 = .ok (.bipush 44, 2) := by decide +kernel
theorem dX4_tellBlock_88 : decode cX4_tellBlock 88 = .ok (.invokevirtual 173, 3) := by decide +kernel
theorem dX4_tellBlock_91 : decode cX4_tellBlock 91 = .ok (.ifCond .eq 21, 3) := by decide +kernel
theorem dX4_tellBlock_94 : decode cX4_tellBlock 94 = .ok (.aload_n 0, 1) := by decide +kernel
theorem dX4_tellBlock_95 : decode cX4_tellBlock 95 = .ok (.getfield 12, 3) := by decide +kernel
theorem dX4_tellBlock_98 : decode cX4_tellBlock 98 = .ok (.invokevirtual 69, 3) := by decide +kernel
theorem dX4_tellBlock_101 : decode cX4_tellBlock 101 = .ok (.aload_n 0, 1) := by decide +kernel
theorem dX4_tellBlock_102 : decode cX4_tellBlock 102 = .ok (.aload_n 1, 1) := by decide +kernel
theorem dX4_tellBlock_103 : decode cX4_tellBlock 103 = .ok (.invokevirtual 170, 3) := by decide +kernel
theorem dX4_tellBlock_106 : decode cX4_tellBlock 106 = .ok (.iinc 3 1, 3) := by decide +kernel
theorem dX4_tellBlock_109 : decode cX4_tellBlock 109 = .ok (.goto (-42), 3) := by decide +kernel
theorem dX4_tellBlock_112 : decode cX4_tellBlock 112 = .ok (.return_, 1) := by decide +kernel
theorem dX4_tellLiking_0 : decode cX4_tellLiking 0 = .ok (.aload_n 0, 1) := by decide +kernel
theorem dX4_tellLiking_1 : decode cX4_tellLiking 1 = .ok (.getfield 12, 3) := by decide +kernel
theorem dX4_tellLiking_4 : decode cX4_tellLiking 4 = .ok (.iconst 2, 1) := by decide +kernel
theorem dX4_tellLiking_5 : decode cX4_tellLiking 5 = .ok (.invokevirtual 177, 3) := by decide +kernel
theorem dX4_tellLiking_8 : decode cX4_tellLiking 8 = .ok (.istore_n 2, 1) := by decide +kernel
theorem dX4_tellLiking_9 : decode cX4_tellLiking 9 = .ok (.aload_n 1, 1) := by decide +kernel
theorem dX4_tellLiking_10 : decode cX4_tellLiking 10 = .ok (.bipush 7, 2) := by decide +kernel
theorem dX4_tellLiking_12 : decode cX4_tellLiking 12 = .ok (.invokevirtual 75, 3) := by decide +kernel
theorem dX4_tellLiking_15 : decode cX4_tellLiking 15 = .ok (.istore_n 3, 1) := by decide +kernel
theorem dX4_tellLiking_16 : decode cX4_tellLiking 16 = .ok (.aload_n 0, 1) := by decide +kernel
theorem dX4_tellLiking_17 : decode cX4_tellLiking 17 = .ok (.getfield 12, 3) := by decide +kernel
theorem dX4_tellLiking_20 : decode cX4_tellLiking 20 = .ok (.invokevirtual 35, 3) := by decide +kernel
theorem dX4_tellLiking_23 : decode cX4_tellLiking 23 = .ok (.ifCond .eq 20, 3) := by decide +kernel
theorem dX4_tellLiking_26 : decode cX4_tellLiking 26 = .ok (.aload_n 1, 1) := by decide +kernel
theorem dX4_tellLiking_27 : decode cX4_tellLiking 27 = .ok (.iload_n 3, 1) := by decide +kernel
theorem dX4_tellLiking_28 : decode cX4_tellLiking 28 = .ok (.iload_n 2, 1) := by decide +kernel
theorem dX4_tellLiking_29 : decode cX4_tellLiking 29 = .ok (.invokevirtual 180, 3) := by decide +kernel
theorem dX4_tellLiking_32 : decode cX4_tellLiking 32 = .ok (.ifCond .le 11, 3) := by decide +kernel
theorem dX4_tellLiking_35 : decode cX4_tellLiking 35 = .ok (.aload_n 0, 1) := by decide +kernel
theorem dX4_tellLiking_36 : decode cX4_tellLiking 36 = .ok (.getfield 12, 3) := by decide +kernel
theorem dX4_tellLiking_39 : decode cX4_tellLiking 39 = .ok (.iconst 3, 1) := by decide +kernel
theorem dX4_tellLiking_40 : decode cX4_tellLiking 40 = .ok (.invokevirtual 56, 3) := by decide +kernel
theorem dX4_tellLiking_43 : decode cX4_tellLiking 43 = .ok (.aload_n 0, 1) := by decide +kernel
theorem dX4_tellLiking_44 : decode cX4_tellLiking 44 = .ok (.getfield 12, 3) := by decide +kernel
theorem dX4_tellLiking_47 : decode cX4_tellLiking 47 = .ok (.invokevirtual 35, 3) := by decide +kernel
theorem dX4_tellLiking_50 : decode cX4_tellLiking 50 = .ok (.ifCond .eq 25, 3) := by decide +kernel
theorem dX4_tellLiking_53 : decode cX4_tellLiking 53 = .ok (.aload_n 0, 1) := by decide +kernel
theorem dX4_tellLiking_54 : decode cX4_tellLiking 54 = .ok (.getfield 12, 3) := by decide +kernel
theorem dX4_tellLiking_57 : decode cX4_tellLiking 57 = .ok (.invokevirtual 69, 3) := by decide +kernel
theorem dX4_tellLiking_60 : decode cX4_tellLiking 60 = .ok (.aload_n 1, 1) := by decide +kernel
theorem dX4_tellLiking_61 : decode cX4_tellLiking 61 = .ok (.iload_n 2, 1) := by decide +kernel
theorem dX4_tellLiking_62 : decode cX4_tellLiking 62 = .ok (.aload_n 0, 1) := by decide +kernel
theorem dX4_tellLiking_63 : decode cX4_tellLiking 63 = .ok (.getfield 12, 3) := by decide +kernel
theorem dX4_tellLiking_66 : decode cX4_tellLiking 66 = .ok (.iconst 1, 1) := by decide +kernel
theorem dX4_tellLiking_67 : decode cX4_tellLiking 67 = .ok (.bipush 9, 2) := by decide +kernel
theorem dX4_tellLiking_69 : decode cX4_tellLiking 69 = .ok (.invokevirtual 116, 3) := by decide +kernel
theorem dX4_tellLiking_72 : decode cX4_tellLiking 72 = .ok (.invokevirtual 183, 3) := by decide +kernel
theorem dX4_tellLiking_75 : decode cX4_tellLiking 75 = .ok (.return_, 1) := by decide +kernel
theorem dX4_trolleyEnd_0 : decode cX4_trolleyEnd 0 = .ok (.aload_n 0, 1) := by decide +kernel
theorem dX4_trolleyEnd_1 : decode cX4_trolleyEnd 1 = .ok (.getfield 12, 3) := by decide +kernel
theorem dX4_trolleyEnd_4 : decode cX4_trolleyEnd 4 = .ok (.invokevirtual 35, 3) := by decide +kernel
theorem dX4_trolleyEnd_7 : decode cX4_trolleyEnd 7 = .ok (.ifCond .ne 5, 3) := by decide +kernel
theorem dX4_trolleyEnd_10 : decode cX4_trolleyEnd 10 = .ok (.iconst 0, 1) := by decide +kernel
theorem dX4_trolleyEnd_11 : decode cX4_trolleyEnd 11 = .ok (.ireturn, 1) := by decide +kernel
theorem dX4_trolleyEnd_12 : decode cX4_trolleyEnd 12 = .ok (.aload_n 0, 1) := by decide +kernel
theorem dX4_trolleyEnd_13 : decode cX4_trolleyEnd 13 = .ok (.getfield 12, 3) := by decide +kernel
theorem dX4_trolleyEnd_16 : decode cX4_trolleyEnd 16 = .ok (.ldc 186, 2) := by decide +kernel
theorem dX4_trolleyEnd_18 : decode cX4_trolleyEnd 18 = .ok (.invokevirtual 151, 3) := by decide +kernel
theorem dX4_trolleyEnd_21 : decode cX4_trolleyEnd 21 = .ok (.ifCond .eq 7, 3) := by decide +kernel
theorem dX4_trolleyEnd_24 : decode cX4_trolleyEnd 24 = .ok (.iconst 1, 1) := by decide +kernel
theorem dX4_trolleyEnd_25 : decode cX4_trolleyEnd 25 = .ok (.goto 4, 3) := by decide +kernel
theorem dX4_trolleyEnd_28 : decode cX4_trolleyEnd 28 = .ok (.iconst 0, 1) := by decide +kernel
theorem dX4_trolleyEnd_29 : decode cX4_trolleyEnd 29 = .ok (.istore_n 2, 1) := by decide +kernel
theorem dX4_trolleyEnd_30 : decode cX4_trolleyEnd 30 = .ok (.iload_n 2, 1) := by decide +kernel
theorem dX4_trolleyEnd_31 : decode cX4_trolleyEnd 31 = .ok (.ifCond .ne 26, 3) := by decide +kernel
theorem dX4_trolleyEnd_34 : decode cX4_trolleyEnd 34 = .ok (.aload_n 0, 1) := by decide +kernel
theorem dX4_trolleyEnd_35 : decode cX4_trolleyEnd 35 = .ok (.getfield 12, 3) := by decide +kernel
theorem dX4_trolleyEnd_38 : decode cX4_trolleyEnd 38 = .ok (.ldc 188, 2) := by decide +kernel
theorem dX4_trolleyEnd_40 : decode cX4_trolleyEnd 40 = .ok (.invokevirtual 151, 3) := by decide +kernel
theorem dX4_trolleyEnd_43 : decode cX4_trolleyEnd 43 = .ok (.ifCond .ne 14, 3) := by decide +kernel
theorem dX4_trolleyEnd_46 : decode cX4_trolleyEnd 46 = .ok (.aload_n 0, 1) := by decide +kernel
theorem dX4_trolleyEnd_47 : decode cX4_trolleyEnd 47 = .ok (.getfield 12, 3) := by decide +kernel
theorem dX4_trolleyEnd_50 : decode cX4_trolleyEnd 50 = .ok (.iconst 1, 1) := by decide +kernel
theorem dX4_trolleyEnd_51 : decode cX4_trolleyEnd 51 = .ok (.invokevirtual 56, 3) := by decide +kernel
theorem dX4_trolleyEnd_54 : decode cX4_trolleyEnd 54 = .ok (.goto 29, 3) := by decide +kernel
theorem dX4_trolleyEnd_57 : decode cX4_trolleyEnd 57 = .ok (.aload_n 1, 1) := by decide +kernel
theorem dX4_trolleyEnd_58 : decode cX4_trolleyEnd 58 = .ok (.iload_n 2, 1) := by decide +kernel
theorem dX4_trolleyEnd_59 : decode cX4_trolleyEnd 59 = .ok (.invokevirtual 190, 3) := by decide +kernel
theorem dX4_trolleyEnd_62 : decode cX4_trolleyEnd 62 = .ok (.ifCond .eq 14, 3) := by decide +kernel
theorem dX4_trolleyEnd_65 : decode cX4_trolleyEnd 65 = .ok (.aload_n 0, 1) := by decide +kernel
theorem dX4_trolleyEnd_66 : decode cX4_trolleyEnd 66 = .ok (.getfield 12, 3) := by decide +kernel
theorem dX4_trolleyEnd_69 : decode cX4_trolleyEnd 69 = .ok (.iconst 3, 1) := by decide +kernel
theorem dX4_trolleyEnd_70 : decode cX4_trolleyEnd 70 = .ok (.invokevirtual 56, 3) := by decide +kernel
theorem dX4_trolleyEnd_73 : decode cX4_trolleyEnd 73 = .ok (.goto 10, 3) := by decide +kernel
theorem dX4_trolleyEnd_76 : decode cX4_trolleyEnd 76 = .ok (.aload_n 0, 1) := by decide +kernel
theorem dX4_trolleyEnd_77 : decode cX4_trolleyEnd 77 = .ok (.getfield 12, 3) := by decide +kernel
theorem dX4_trolleyEnd_80 : decode cX4_trolleyEnd 80 = .ok (.invokevirtual 69, 3) := by decide +kernel
theorem dX4_trolleyEnd_83 : decode cX4_trolleyEnd 83 = .ok (.iload_n 2, 1) := by decide +kernel
theorem dX4_trolleyEnd_84 : decode cX4_trolleyEnd 84 = .ok (.ireturn, 1) := by decide +kernel
theorem dX4_labelled_0 : decode cX4_labelled 0 = .ok (.aload_n 0, 1) := by decide +kernel
theorem dX4_labelled_1 : decode cX4_labelled 1 = .ok (.getfield 12, 3) := by decide +kernel
theorem dX4_labelled_4 : decode cX4_labelled 4 = .ok (.aload_n 1, 1) := by decide +kernel
theorem dX4_labelled_5 : decode cX4_labelled 5 = .ok (.invokevirtual 142, 3) := by decide +kernel
theorem dX4_labelled_8 : decode cX4_labelled 8 = .ok (.aload_n 0, 1) := by decide +kernel
theorem dX4_labelled_9 : decode cX4_labelled 9 = .ok (.getfield 12, 3) := by decide +kernel
theorem dX4_labelled_12 : decode cX4_labelled 12 = .ok (.iload_n 2, 1) := by decide +kernel
theorem dX4_labelled_13 : decode cX4_labelled 13 = .ok (.iload_n 3, 1) := by decide +kernel
theorem dX4_labelled_14 : decode cX4_labelled 14 = .ok (.invokevirtual 116, 3) := by decide +kernel
theorem dX4_labelled_17 : decode cX4_labelled 17 = .ok (.ireturn, 1) := by decide +kernel
theorem dX5_init_0 : decode cX5_init 0 = .ok (.aload_n 0, 1) := by decide +kernel
theorem dX5_init_1 : decode cX5_init 1 = .ok (.invokespecial 3, 3) := by decide +kernel
theorem dX5_init_4 : decode cX5_init 4 = .ok (.aload_n 0, 1) := by decide +kernel
theorem dX5_init_5 : decode cX5_init 5 = .ok (.bipush 6, 2) := by decide +kernel
theorem dX5_init_7 : decode cX5_init 7 = .ok (.newarray .int, 2) := by decide +kernel
theorem dX5_init_9 : decode cX5_init 9 = .ok (.putfield 9, 3) := by decide +kernel
theorem dX5_init_12 : decode cX5_init 12 = .ok (.aload_n 0, 1) := by decide +kernel
theorem dX5_init_13 : decode cX5_init 13 = .ok (.bipush 6, 2) := by decide +kernel
theorem dX5_init_15 : decode cX5_init 15 = .ok (.newarray .int, 2) := by decide +kernel
theorem dX5_init_17 : decode cX5_init 17 = .ok (.putfield 15, 3) := by decide +kernel
theorem dX5_init_20 : decode cX5_init 20 = .ok (.aload_n 0, 1) := by decide +kernel
theorem dX5_init_21 : decode cX5_init 21 = .ok (.bipush 7, 2) := by decide +kernel
theorem dX5_init_23 : decode cX5_init 23 = .ok (.bipush 100, 2) := by decide +kernel
theorem dX5_init_25 : decode cX5_init 25 = .ok (.multianewarray 18 2, 4) := by decide +kernel
theorem dX5_init_29 : decode cX5_init 29 = .ok (.putfield 20, 3) := by decide +kernel
theorem dX5_init_32 : decode cX5_init 32 = .ok (.aload_n 0, 1) := by decide +kernel
theorem dX5_init_33 : decode cX5_init 33 = .ok (.sipush 200, 3) := by decide +kernel
theorem dX5_init_36 : decode cX5_init 36 = .ok (.newarray .int, 2) := by decide +kernel
theorem dX5_init_38 : decode cX5_init 38 = .ok (.putfield 23, 3) := by decide +kernel
theorem dX5_init_41 : decode cX5_init 41 = .ok (.return_, 1) := by decide +kernel
theorem dX5_coinOf_0 : decode cX5_coinOf 0 = .ok (.iconst 0, 1) := by decide +kernel
theorem dX5_coinOf_1 : decode cX5_coinOf 1 = .ok (.istore_n 1, 1) := by decide +kernel
theorem dX5_coinOf_2 : decode cX5_coinOf 2 = .ok (.iload_n 1, 1) := by decide +kernel
theorem dX5_coinOf_3 : decode cX5_coinOf 3 = .ok (.bipush 6, 2) := by decide +kernel
theorem dX5_coinOf_5 : decode cX5_coinOf 5 = .ok (.if_icmp .ge 20, 3) := by decide +kernel
theorem dX5_coinOf_8 : decode cX5_coinOf 8 = .ok (.getstatic 26, 3) := by decide +kernel
theorem dX5_coinOf_11 : decode cX5_coinOf 11 = .ok (.iload_n 1, 1) := by decide +kernel
theorem dX5_coinOf_12 : decode cX5_coinOf 12 = .ok (.iaload, 1) := by decide +kernel
theorem dX5_coinOf_13 : decode cX5_coinOf 13 = .ok (.iload_n 0, 1) := by decide +kernel
theorem dX5_coinOf_14 : decode cX5_coinOf 14 = .ok (.if_icmp .ne 5, 3) := by decide +kernel
theorem dX5_coinOf_17 : decode cX5_coinOf 17 = .ok (.iload_n 1, 1) := by decide +kernel
theorem dX5_coinOf_18 : decode cX5_coinOf 18 = .ok (.ireturn, 1) := by decide +kernel
theorem dX5_coinOf_19 : decode cX5_coinOf 19 = .ok (.iinc 1 1, 3) := by decide +kernel
theorem dX5_coinOf_22 : decode cX5_coinOf 22 = .ok (.goto (-20), 3) := by decide +kernel
theorem dX5_coinOf_25 : decode cX5_coinOf 25 = .ok (.iconst (-1), 1) := by decide +kernel
theorem dX5_coinOf_26 : decode cX5_coinOf 26 = .ok (.ireturn, 1) := by decide +kernel
theorem dX5_isCoin_0 : decode cX5_isCoin 0 = .ok (.iload_n 0, 1) := by decide +kernel
theorem dX5_isCoin_1 : decode cX5_isCoin 1 = .ok (.ifCond .lt 13, 3) := by decide +kernel
theorem dX5_isCoin_4 : decode cX5_isCoin 4 = .ok (.iload_n 0, 1) := by decide +kernel
theorem dX5_isCoin_5 : decode cX5_isCoin 5 = .ok (.bipush 6, 2) := by decide +kernel
theorem dX5_isCoin_7 : decode cX5_isCoin 7 = .ok (.if_icmp .ge 7, 3) := by decide +kernel
theorem dX5_isCoin_10 : decode cX5_isCoin 10 = .ok (.iconst 1, 1) := by decide +kernel
theorem dX5_isCoin_11 : decode cX5_isCoin 11 = .ok (.goto 4, 3) := by decide +kernel
theorem dX5_isCoin_14 : decode cX5_isCoin 14 = .ok (.iconst 0, 1) := by decide +kernel
theorem dX5_isCoin_15 : decode cX5_isCoin 15 = .ok (.ireturn, 1) := by decide +kernel
theorem dX5_fill_0 : decode cX5_fill 0 = .ok (.iload_n 1, 1) := by decide +kernel
theorem dX5_fill_1 : decode cX5_fill 1 = .ok (.invokestatic 29, 3) := by decide +kernel
theorem dX5_fill_4 : decode cX5_fill 4 = .ok (.ifCond .eq 10, 3) := by decide +kernel
theorem dX5_fill_7 : decode cX5_fill 7 = .ok (.aload_n 0, 1) := by decide +kernel
theorem dX5_fill_8 : decode cX5_fill 8 = .ok (.getfield 9, 3) := by decide +kernel
theorem dX5_fill_11 : decode cX5_fill 11 = .ok (.iload_n 1, 1) := by decide +kernel
theorem dX5_fill_12 : decode cX5_fill 12 = .ok (.iload_n 2, 1) := by decide +kernel
theorem dX5_fill_13 : decode cX5_fill 13 = .ok (.iastore, 1) := by decide +kernel
theorem dX5_fill_14 : decode cX5_fill 14 = .ok (.return_, 1) := by decide +kernel
theorem dX5_isFullOf_0 : decode cX5_isFullOf 0 = .ok (.iload_n 1, 1) := by decide +kernel
theorem dX5_isFullOf_1 : decode cX5_isFullOf 1 = .ok (.invokestatic 29, 3) := by decide +kernel
theorem dX5_isFullOf_4 : decode cX5_isFullOf 4 = .ok (.ifCond .eq 18, 3) := by decide +kernel
theorem dX5_isFullOf_7 : decode cX5_isFullOf 7 = .ok (.aload_n 0, 1) := by decide +kernel
theorem dX5_isFullOf_8 : decode cX5_isFullOf 8 = .ok (.getfield 9, 3) := by decide +kernel
theorem dX5_isFullOf_11 : decode cX5_isFullOf 11 = .ok (.iload_n 1, 1) := by decide +kernel
theorem dX5_isFullOf_12 : decode cX5_isFullOf 12 = .ok (.iaload, 1) := by decide +kernel
theorem dX5_isFullOf_13 : decode cX5_isFullOf 13 = .ok (.bipush 99, 2) := by decide +kernel
theorem dX5_isFullOf_15 : decode cX5_isFullOf 15 = .ok (.if_icmp .lt 7, 3) := by decide +kernel
theorem dX5_isFullOf_18 : decode cX5_isFullOf 18 = .ok (.iconst 1, 1) := by decide +kernel
theorem dX5_isFullOf_19 : decode cX5_isFullOf 19 = .ok (.goto 4, 3) := by decide +kernel
theorem dX5_isFullOf_22 : decode cX5_isFullOf 22 = .ok (.iconst 0, 1) := by decide +kernel
theorem dX5_isFullOf_23 : decode cX5_isFullOf 23 = .ok (.ireturn, 1) := by decide +kernel
theorem dX5_take_0 : decode cX5_take 0 = .ok (.iload_n 1, 1) := by decide +kernel
theorem dX5_take_1 : decode cX5_take 1 = .ok (.invokestatic 29, 3) := by decide +kernel
theorem dX5_take_4 : decode cX5_take 4 = .ok (.ifCond .eq 16, 3) := by decide +kernel
theorem dX5_take_7 : decode cX5_take 7 = .ok (.aload_n 0, 1) := by decide +kernel
theorem dX5_take_8 : decode cX5_take 8 = .ok (.getfield 9, 3) := by decide +kernel
theorem dX5_take_11 : decode cX5_take 11 = .ok (.iload_n 1, 1) := by decide +kernel
theorem dX5_take_12 : decode cX5_take 12 = .ok (.dup2, 1) := by decide +kernel
theorem dX5_take_13 : decode cX5_take 13 = .ok (.iaload, 1) := by decide +kernel
theorem dX5_take_14 : decode cX5_take 14 = .ok (.iconst 1, 1) := by decide +kernel
theorem dX5_take_15 : decode cX5_take 15 = .ok (.iadd, 1) := by decide +kernel
theorem dX5_take_16 : decode cX5_take 16 = .ok (.iastore, 1) := by decide +kernel
theorem dX5_take_17 : decode cX5_take 17 = .ok (.goto 13, 3) := by decide +kernel
theorem dX5_take_20 : decode cX5_take 20 = .ok (.aload_n 0, 1) := by decide +kernel
theorem dX5_take_21 : decode cX5_take 21 = .ok (.dup, 1) := by decide +kernel
theorem dX5_take_22 : decode cX5_take 22 = .ok (.getfield 33, 3) := by decide +kernel
theorem dX5_take_25 : decode cX5_take 25 = .ok (.iconst 1, 1) := by decide +kernel
theorem dX5_take_26 : decode cX5_take 26 = .ok (.iadd, 1) := by decide +kernel
theorem dX5_take_27 : decode cX5_take 27 = .ok (.putfield 33, 3) := by decide +kernel
theorem dX5_take_30 : decode cX5_take 30 = .ok (.return_, 1) := by decide +kernel
theorem dX5_notes_0 : decode cX5_notes 0 = .ok (.aload_n 0, 1) := by decide +kernel
theorem dX5_notes_1 : decode cX5_notes 1 = .ok (.getfield 33, 3) := by decide +kernel
theorem dX5_notes_4 : decode cX5_notes 4 = .ok (.ireturn, 1) := by decide +kernel
theorem dX5_givenOf_0 : decode cX5_givenOf 0 = .ok (.iload_n 1, 1) := by decide +kernel
theorem dX5_givenOf_1 : decode cX5_givenOf 1 = .ok (.invokestatic 29, 3) := by decide +kernel
theorem dX5_givenOf_4 : decode cX5_givenOf 4 = .ok (.ifCond .eq 12, 3) := by decide +kernel
theorem dX5_givenOf_7 : decode cX5_givenOf 7 = .ok (.aload_n 0, 1) := by decide +kernel
theorem dX5_givenOf_8 : decode cX5_givenOf 8 = .ok (.getfield 15, 3) := by decide +kernel
theorem dX5_givenOf_11 : decode cX5_givenOf 11 = .ok (.iload_n 1, 1) := by decide +kernel
theorem dX5_givenOf_12 : decode cX5_givenOf 12 = .ok (.iaload, 1) := by decide +kernel
theorem dX5_givenOf_13 : decode cX5_givenOf 13 = .ok (.goto 4, 3) := by decide +kernel
theorem dX5_givenOf_16 : decode cX5_givenOf 16 = .ok (.iconst 0, 1) := by decide +kernel
theorem dX5_givenOf_17 : decode cX5_givenOf 17 = .ok (.ireturn, 1) := by decide +kernel
theorem dX5_worth_0 : decode cX5_worth 0 = .ok (.iconst 0, 1) := by decide +kernel
theorem dX5_worth_1 : decode cX5_worth 1 = .ok (.istore_n 1, 1) := by decide +kernel
theorem dX5_worth_2 : decode cX5_worth 2 = .ok (.iconst 0, 1) := by decide +kernel
theorem dX5_worth_3 : decode cX5_worth 3 = .ok (.istore_n 2, 1) := by decide +kernel
theorem dX5_worth_4 : decode cX5_worth 4 = .ok (.iload_n 2, 1) := by decide +kernel
theorem dX5_worth_5 : decode cX5_worth 5 = .ok (.bipush 6, 2) := by decide +kernel
theorem dX5_worth_7 : decode cX5_worth 7 = .ok (.if_icmp .ge 24, 3) := by decide +kernel
theorem dX5_worth_10 : decode cX5_worth 10 = .ok (.iload_n 1, 1) := by decide +kernel
theorem dX5_worth_11 : decode cX5_worth 11 = .ok (.getstatic 26, 3) := by decide +kernel
theorem dX5_worth_14 : decode cX5_worth 14 = .ok (.iload_n 2, 1) := by decide +kernel
theorem dX5_worth_15 : decode cX5_worth 15 = .ok (.iaload, 1) := by decide +kernel
theorem dX5_worth_16 : decode cX5_worth 16 = .ok (.aload_n 0, 1) := by decide +kernel
theorem dX5_worth_17 : decode cX5_worth 17 = .ok (.getfield 9, 3) := by decide +kernel
theorem dX5_worth_20 : decode cX5_worth 20 = .ok (.iload_n 2, 1) := by decide +kernel
theorem dX5_worth_21 : decode cX5_worth 21 = .ok (.iaload, 1) := by decide +kernel
theorem dX5_worth_22 : decode cX5_worth 22 = .ok (.imul, 1) := by decide +kernel
theorem dX5_worth_23 : decode cX5_worth 23 = .ok (.iadd, 1) := by decide +kernel
theorem dX5_worth_24 : decode cX5_worth 24 = .ok (.istore_n 1, 1) := by decide +kernel
theorem dX5_worth_25 : decode cX5_worth 25 = .ok (.iinc 2 1, 3) := by decide +kernel
theorem dX5_worth_28 : decode cX5_worth 28 = .ok (.goto (-24), 3) := by decide +kernel
theorem dX5_worth_31 : decode cX5_worth 31 = .ok (.iload_n 1, 1) := by decide +kernel
theorem dX5_worth_32 : decode cX5_worth 32 = .ok (.ireturn, 1) := by decide +kernel
theorem dX5_giveBack_0 : decode cX5_giveBack 0 = .ok (.iload_n 1, 1) := by decide +kernel
theorem dX5_giveBack_1 : decode cX5_giveBack 1 = .ok (.ifCond .lt 9, 3) := by decide +kernel
theorem dX5_giveBack_4 : decode cX5_giveBack 4 = .ok (.iload_n 1, 1) := by decide +kernel
theorem dX5_giveBack_5 : decode cX5_giveBack 5 = .ok (.bipush 100, 2) := by decide +kernel
theorem dX5_giveBack_7 : decode cX5_giveBack 7 = .ok (.if_icmp .lt 5, 3) := by decide +kernel
theorem dX5_giveBack_10 : decode cX5_giveBack 10 = .ok (.iconst 0, 1) := by decide +kernel
theorem dX5_giveBack_11 : decode cX5_giveBack 11 = .ok (.ireturn, 1) := by decide +kernel
theorem dX5_giveBack_12 : decode cX5_giveBack 12 = .ok (.aload_n 0, 1) := by decide +kernel
theorem dX5_giveBack_13 : decode cX5_giveBack 13 = .ok (.iload_n 1, 1) := by decide +kernel
theorem dX5_giveBack_14 : decode cX5_giveBack 14 = .ok (.invokevirtual 37, 3) := by decide +kernel
theorem dX5_giveBack_17 : decode cX5_giveBack 17 = .ok (.aload_n 0, 1) := by decide +kernel
theorem dX5_giveBack_18 : decode cX5_giveBack 18 = .ok (.getfield 20, 3) := by decide +kernel
theorem dX5_giveBack_21 : decode cX5_giveBack 21 = .ok (.bipush 6, 2) := by decide +kernel
theorem dX5_giveBack_23 : decode cX5_giveBack 23 = .ok (.aaload, 1) := by decide +kernel
theorem dX5_giveBack_24 : decode cX5_giveBack 24 = .ok (.iload_n 1, 1) := by decide +kernel
theorem dX5_giveBack_25 : decode cX5_giveBack 25 = .ok (.iaload, 1) := by decide +kernel
theorem dX5_giveBack_26 : decode cX5_giveBack 26 = .ok (.sipush 1000, 3) := by decide +kernel
theorem dX5_giveBack_29 : decode cX5_giveBack 29 = .ok (.if_icmp .lt 5, 3) := by decide +kernel
theorem dX5_giveBack_32 : decode cX5_giveBack 32 = .ok (.iconst 0, 1) := by decide +kernel
theorem dX5_giveBack_33 : decode cX5_giveBack 33 = .ok (.ireturn, 1) := by decide +kernel
theorem dX5_giveBack_34 : decode cX5_giveBack 34 = .ok (.iload_n 1, 1) := by decide +kernel
theorem dX5_giveBack_35 : decode cX5_giveBack 35 = .ok (.istore_n 2, 1) := by decide +kernel
theorem dX5_giveBack_36 : decode cX5_giveBack 36 = .ok (.iconst 5, 1) := by decide +kernel
theorem dX5_giveBack_37 : decode cX5_giveBack 37 = .ok (.istore_n 3, 1) := by decide +kernel
theorem dX5_giveBack_38 : decode cX5_giveBack 38 = .ok (.iload_n 3, 1) := by decide +kernel
theorem dX5_giveBack_39 : decode cX5_giveBack 39 = .ok (.ifCond .lt 91, 3) := by decide +kernel
theorem dX5_giveBack_42 : decode cX5_giveBack 42 = .ok (.aload_n 0, 1) := by decide +kernel
theorem dX5_giveBack_43 : decode cX5_giveBack 43 = .ok (.iload_n 3, 1) := by decide +kernel
theorem dX5_giveBack_44 : decode cX5_giveBack 44 = .ok (.iload_n 2, 1) := by decide +kernel
theorem dX5_giveBack_45 : decode cX5_giveBack 45 = .ok (.invokevirtual 41, 3) := by decide +kernel
theorem dX5_giveBack_48 : decode cX5_giveBack 48 = .ok (.istore 4, 2) := by decide +kernel
theorem dX5_giveBack_50 : decode cX5_giveBack 50 = .ok (.iload 4, 2) := by decide +kernel
theorem dX5_giveBack_52 : decode cX5_giveBack 52 = .ok (.ifCond .le 42, 3) := by decide +kernel
theorem dX5_giveBack_55 : decode cX5_giveBack 55 = .ok (.iload 4, 2) := by decide +kernel
theorem dX5_giveBack_57 : decode cX5_giveBack 57 = .ok (.aload_n 0, 1) := by decide +kernel
theorem dX5_giveBack_58 : decode cX5_giveBack 58 = .ok (.getfield 20, 3) := by decide +kernel
theorem dX5_giveBack_61 : decode cX5_giveBack 61 = .ok (.iload_n 3, 1) := by decide +kernel
theorem dX5_giveBack_62 : decode cX5_giveBack 62 = .ok (.aaload, 1) := by decide +kernel
theorem dX5_giveBack_63 : decode cX5_giveBack 63 = .ok (.iload_n 2, 1) := by decide +kernel
theorem dX5_giveBack_64 : decode cX5_giveBack 64 = .ok (.iload 4, 2) := by decide +kernel
theorem dX5_giveBack_66 : decode cX5_giveBack 66 = .ok (.getstatic 26, 3) := by decide +kernel
theorem dX5_giveBack_69 : decode cX5_giveBack 69 = .ok (.iload_n 3, 1) := by decide +kernel
theorem dX5_giveBack_70 : decode cX5_giveBack 70 = .ok (.iaload, 1) := by decide +kernel
theorem dX5_giveBack_71 : decode cX5_giveBack 71 = .ok (.imul, 1) := by decide +kernel
theorem dX5_giveBack_72 : decode cX5_giveBack 72 = .ok (.isub, 1) := by decide +kernel
theorem dX5_giveBack_73 : decode cX5_giveBack 73 = .ok (.iaload, 1) := by decide +kernel
theorem dX5_giveBack_74 : decode cX5_giveBack 74 = .ok (.iadd, 1) := by decide +kernel
theorem dX5_giveBack_75 : decode cX5_giveBack 75 = .ok (.aload_n 0, 1) := by decide +kernel
theorem dX5_giveBack_76 : decode cX5_giveBack 76 = .ok (.getfield 20, 3) := by decide +kernel
theorem dX5_giveBack_79 : decode cX5_giveBack 79 = .ok (.iload_n 3, 1) := by decide +kernel
theorem dX5_giveBack_80 : decode cX5_giveBack 80 = .ok (.iconst 1, 1) := by decide +kernel
theorem dX5_giveBack_81 : decode cX5_giveBack 81 = .ok (.iadd, 1) := by decide +kernel
theorem dX5_giveBack_82 : decode cX5_giveBack 82 = .ok (.aaload, 1) := by decide +kernel
theorem dX5_giveBack_83 : decode cX5_giveBack 83 = .ok (.iload_n 2, 1) := by decide +kernel
theorem dX5_giveBack_84 : decode cX5_giveBack 84 = .ok (.iaload, 1) := by decide +kernel
theorem dX5_giveBack_85 : decode cX5_giveBack 85 = .ok (.if_icmp .le 9, 3) := by decide +kernel
theorem dX5_giveBack_88 : decode cX5_giveBack 88 = .ok (.iinc 4 (-1), 3) := by decide +kernel
theorem dX5_giveBack_91 : decode cX5_giveBack 91 = .ok (.goto (-41), 3) := by decide +kernel
theorem dX5_giveBack_94 : decode cX5_giveBack 94 = .ok (.aload_n 0, 1) := by decide +kernel
theorem dX5_giveBack_95 : decode cX5_giveBack 95 = .ok (.getfield 15, 3) := by decide +kernel
theorem dX5_giveBack_98 : decode cX5_giveBack 98 = .ok (.iload_n 3, 1) := by decide +kernel
theorem dX5_giveBack_99 : decode cX5_giveBack 99 = .ok (.iload 4, 2) := by decide +kernel
theorem dX5_giveBack_101 : decode cX5_giveBack 101 = .ok (.iastore, 1) := by decide +kernel
theorem dX5_giveBack_102 : decode cX5_giveBack 102 = .ok (.aload_n 0, 1) := by decide +kernel
theorem dX5_giveBack_103 : decode cX5_giveBack 103 = .ok (.getfield 9, 3) := by decide +kernel
theorem dX5_giveBack_106 : decode cX5_giveBack 106 = .ok (.iload_n 3, 1) := by decide +kernel
theorem dX5_giveBack_107 : decode cX5_giveBack 107 = .ok (.dup2, 1) := by decide +kernel
theorem dX5_giveBack_108 : decode cX5_giveBack 108 = .ok (.iaload, 1) := by decide +kernel
theorem dX5_giveBack_109 : decode cX5_giveBack 109 = .ok (.iload 4, 2) := by decide +kernel
theorem dX5_giveBack_111 : decode cX5_giveBack 111 = .ok (.isub, 1) := by decide +kernel
theorem dX5_giveBack_112 : decode cX5_giveBack 112 = .ok (.iastore, 1) := by decide +kernel
theorem dX5_giveBack_113 : decode cX5_giveBack 113 = .ok (.iload_n 2, 1) := by decide +kernel
theorem dX5_giveBack_114 : decode cX5_giveBack 114 = .ok (.iload 4, 2) := by decide +kernel
theorem dX5_giveBack_116 : decode cX5_giveBack 116 = .ok (.getstatic 26, 3) := by decide +kernel
theorem dX5_giveBack_119 : decode cX5_giveBack 119 = .ok (.iload_n 3, 1) := by decide +kernel
theorem dX5_giveBack_120 : decode cX5_giveBack 120 = .ok (.iaload, 1) := by decide +kernel
theorem dX5_giveBack_121 : decode cX5_giveBack 121 = .ok (.imul, 1) := by decide +kernel
theorem dX5_giveBack_122 : decode cX5_giveBack 122 = .ok (.isub, 1) := by decide +kernel
theorem dX5_giveBack_123 : decode cX5_giveBack 123 = .ok (.istore_n 2, 1) := by decide +kernel
theorem dX5_giveBack_124 : decode cX5_giveBack 124 = .ok (.iinc 3 (-1), 3) := by decide +kernel
theorem dX5_giveBack_127 : decode cX5_giveBack 127 = .ok (.goto (-89), 3) := by decide +kernel
theorem dX5_giveBack_130 : decode cX5_giveBack 130 = .ok (.iconst 1, 1) := by decide +kernel
theorem dX5_giveBack_131 : decode cX5_giveBack 131 = .ok (.ireturn, 1) := by decide +kernel
theorem dX5_most_0 : decode cX5_most 0 = .ok (.aload_n 0, 1) := by decide +kernel
theorem dX5_most_1 : decode cX5_most 1 = .ok (.getfield 9, 3) := by decide +kernel
theorem dX5_most_4 : decode cX5_most 4 = .ok (.iload_n 1, 1) := by decide +kernel
theorem dX5_most_5 : decode cX5_most 5 = .ok (.iaload, 1) := by decide +kernel
theorem dX5_most_6 : decode cX5_most 6 = .ok (.iload_n 2, 1) := by decide +kernel
theorem dX5_most_7 : decode cX5_most 7 = .ok (.getstatic 26, 3) := by decide +kernel
theorem dX5_most_10 : decode cX5_most 10 = .ok (.iload_n 1, 1) := by decide +kernel
theorem dX5_most_11 : decode cX5_most 11 = .ok (.iaload, 1) := by decide +kernel
theorem dX5_most_12 : decode cX5_most 12 = .ok (.idiv, 1) := by decide +kernel
theorem dX5_most_13 : decode cX5_most 13 = .ok (.invokestatic 45, 3) := by decide +kernel
theorem dX5_most_16 : decode cX5_most 16 = .ok (.ireturn, 1) := by decide +kernel
theorem dX5_countFewest_0 : decode cX5_countFewest 0 = .ok (.aload_n 0, 1) := by decide +kernel
theorem dX5_countFewest_1 : decode cX5_countFewest 1 = .ok (.getfield 20, 3) := by decide +kernel
theorem dX5_countFewest_4 : decode cX5_countFewest 4 = .ok (.iconst 0, 1) := by decide +kernel
theorem dX5_countFewest_5 : decode cX5_countFewest 5 = .ok (.aaload, 1) := by decide +kernel
theorem dX5_countFewest_6 : decode cX5_countFewest 6 = .ok (.sipush 1000, 3) := by decide +kernel
theorem dX5_countFewest_9 : decode cX5_countFewest 9 = .ok (.invokestatic 50, 3) := by decide +kernel
theorem dX5_countFewest_12 : decode cX5_countFewest 12 = .ok (.aload_n 0, 1) := by decide +kernel
theorem dX5_countFewest_13 : decode cX5_countFewest 13 = .ok (.getfield 20, 3) := by decide +kernel
theorem dX5_countFewest_16 : decode cX5_countFewest 16 = .ok (.iconst 0, 1) := by decide +kernel
theorem dX5_countFewest_17 : decode cX5_countFewest 17 = .ok (.aaload, 1) := by decide +kernel
theorem dX5_countFewest_18 : decode cX5_countFewest 18 = .ok (.iconst 0, 1) := by decide +kernel
theorem dX5_countFewest_19 : decode cX5_countFewest 19 = .ok (.iconst 0, 1) := by decide +kernel
theorem dX5_countFewest_20 : decode cX5_countFewest 20 = .ok (.iastore, 1) := by decide +kernel
theorem dX5_countFewest_21 : decode cX5_countFewest 21 = .ok (.iconst 0, 1) := by decide +kernel
theorem dX5_countFewest_22 : decode cX5_countFewest 22 = .ok (.istore_n 2, 1) := by decide +kernel
theorem dX5_countFewest_23 : decode cX5_countFewest 23 = .ok (.iload_n 2, 1) := by decide +kernel
theorem dX5_countFewest_24 : decode cX5_countFewest 24 = .ok (.bipush 6, 2) := by decide +kernel
theorem dX5_countFewest_26 : decode cX5_countFewest 26 = .ok (.if_icmp .ge 85, 3) := by decide +kernel
theorem dX5_countFewest_29 : decode cX5_countFewest 29 = .ok (.iconst 0, 1) := by decide +kernel
theorem dX5_countFewest_30 : decode cX5_countFewest 30 = .ok (.istore_n 3, 1) := by decide +kernel
theorem dX5_countFewest_31 : decode cX5_countFewest 31 = .ok (.iload_n 3, 1) := by decide +kernel
theorem dX5_countFewest_32 : decode cX5_countFewest 32 = .ok (.iload_n 1, 1) := by decide +kernel
theorem dX5_countFewest_33 : decode cX5_countFewest 33 = .ok (.if_icmp .gt 72, 3) := by decide +kernel
theorem dX5_countFewest_36 : decode cX5_countFewest 36 = .ok (.sipush 1000, 3) := by decide +kernel
theorem dX5_countFewest_39 : decode cX5_countFewest 39 = .ok (.istore 4, 2) := by decide +kernel
theorem dX5_countFewest_41 : decode cX5_countFewest 41 = .ok (.aload_n 0, 1) := by decide +kernel
theorem dX5_countFewest_42 : decode cX5_countFewest 42 = .ok (.iload_n 2, 1) := by decide +kernel
theorem dX5_countFewest_43 : decode cX5_countFewest 43 = .ok (.iload_n 3, 1) := by decide +kernel
theorem dX5_countFewest_44 : decode cX5_countFewest 44 = .ok (.invokevirtual 41, 3) := by decide +kernel
theorem dX5_countFewest_47 : decode cX5_countFewest 47 = .ok (.istore 5, 2) := by decide +kernel
theorem dX5_countFewest_49 : decode cX5_countFewest 49 = .ok (.iload 5, 2) := by decide +kernel
theorem dX5_countFewest_51 : decode cX5_countFewest 51 = .ok (.ifCond .lt 36, 3) := by decide +kernel
theorem dX5_countFewest_54 : decode cX5_countFewest 54 = .ok (.iload 4, 2) := by decide +kernel
theorem dX5_countFewest_56 : decode cX5_countFewest 56 = .ok (.iload 5, 2) := by decide +kernel
theorem dX5_countFewest_58 : decode cX5_countFewest 58 = .ok (.aload_n 0, 1) := by decide +kernel
theorem dX5_countFewest_59 : decode cX5_countFewest 59 = .ok (.getfield 20, 3) := by decide +kernel
theorem dX5_countFewest_62 : decode cX5_countFewest 62 = .ok (.iload_n 2, 1) := by decide +kernel
theorem dX5_countFewest_63 : decode cX5_countFewest 63 = .ok (.aaload, 1) := by decide +kernel
theorem dX5_countFewest_64 : decode cX5_countFewest 64 = .ok (.iload_n 3, 1) := by decide +kernel
theorem dX5_countFewest_65 : decode cX5_countFewest 65 = .ok (.iload 5, 2) := by decide +kernel
theorem dX5_countFewest_67 : decode cX5_countFewest 67 = .ok (.getstatic 26, 3) := by decide +kernel
theorem dX5_countFewest_70 : decode cX5_countFewest 70 = .ok (.iload_n 2, 1) := by decide +kernel
theorem dX5_countFewest_71 : decode cX5_countFewest 71 = .ok (.iaload, 1) := by decide +kernel
theorem dX5_countFewest_72 : decode cX5_countFewest 72 = .ok (.imul, 1) := by decide +kernel
theorem dX5_countFewest_73 : decode cX5_countFewest 73 = .ok (.isub, 1) := by decide +kernel
theorem dX5_countFewest_74 : decode cX5_countFewest 74 = .ok (.iaload, 1) := by decide +kernel
theorem dX5_countFewest_75 : decode cX5_countFewest 75 = .ok (.iadd, 1) := by decide +kernel
theorem dX5_countFewest_76 : decode cX5_countFewest 76 = .ok (.invokestatic 45, 3) := by decide +kernel
theorem dX5_countFewest_79 : decode cX5_countFewest 79 = .ok (.istore 4, 2) := by decide +kernel
theorem dX5_countFewest_81 : decode cX5_countFewest 81 = .ok (.iinc 5 (-1), 3) := by decide +kernel
theorem dX5_countFewest_84 : decode cX5_countFewest 84 = .ok (.goto (-35), 3) := by decide +kernel
theorem dX5_countFewest_87 : decode cX5_countFewest 87 = .ok (.aload_n 0, 1) := by decide +kernel
theorem dX5_countFewest_88 : decode cX5_countFewest 88 = .ok (.getfield 20, 3) := by decide +kernel
theorem dX5_countFewest_91 : decode cX5_countFewest 91 = .ok (.iload_n 2, 1) := by decide +kernel
theorem dX5_countFewest_92 : decode cX5_countFewest 92 = .ok (.iconst 1, 1) := by decide +kernel
theorem dX5_countFewest_93 : decode cX5_countFewest 93 = .ok (.iadd, 1) := by decide +kernel
theorem dX5_countFewest_94 : decode cX5_countFewest 94 = .ok (.aaload, 1) := by decide +kernel
theorem dX5_countFewest_95 : decode cX5_countFewest 95 = .ok (.iload_n 3, 1) := by decide +kernel
theorem dX5_countFewest_96 : decode cX5_countFewest 96 = .ok (.iload 4, 2) := by decide +kernel
theorem dX5_countFewest_98 : decode cX5_countFewest 98 = .ok (.iastore, 1) := by decide +kernel
theorem dX5_countFewest_99 : decode cX5_countFewest 99 = .ok (.iinc 3 1, 3) := by decide +kernel
theorem dX5_countFewest_102 : decode cX5_countFewest 102 = .ok (.goto (-71), 3) := by decide +kernel
theorem dX5_countFewest_105 : decode cX5_countFewest 105 = .ok (.iinc 2 1, 3) := by decide +kernel
theorem dX5_countFewest_108 : decode cX5_countFewest 108 = .ok (.goto (-85), 3) := by decide +kernel
theorem dX5_countFewest_111 : decode cX5_countFewest 111 = .ok (.return_, 1) := by decide +kernel
theorem dX5_waysToGive_0 : decode cX5_waysToGive 0 = .ok (.iload_n 1, 1) := by decide +kernel
theorem dX5_waysToGive_1 : decode cX5_waysToGive 1 = .ok (.ifCond .lt 10, 3) := by decide +kernel
theorem dX5_waysToGive_4 : decode cX5_waysToGive 4 = .ok (.iload_n 1, 1) := by decide +kernel
theorem dX5_waysToGive_5 : decode cX5_waysToGive 5 = .ok (.sipush 199, 3) := by decide +kernel
theorem dX5_waysToGive_8 : decode cX5_waysToGive 8 = .ok (.if_icmp .le 5, 3) := by decide +kernel
theorem dX5_waysToGive_11 : decode cX5_waysToGive 11 = .ok (.iconst 0, 1) := by decide +kernel
theorem dX5_waysToGive_12 : decode cX5_waysToGive 12 = .ok (.ireturn, 1) := by decide +kernel
theorem dX5_waysToGive_13 : decode cX5_waysToGive 13 = .ok (.aload_n 0, 1) := by decide +kernel
theorem dX5_waysToGive_14 : decode cX5_waysToGive 14 = .ok (.getfield 23, 3) := by decide +kernel
theorem dX5_waysToGive_17 : decode cX5_waysToGive 17 = .ok (.iconst 0, 1) := by decide +kernel
theorem dX5_waysToGive_18 : decode cX5_waysToGive 18 = .ok (.invokestatic 50, 3) := by decide +kernel
theorem dX5_waysToGive_21 : decode cX5_waysToGive 21 = .ok (.aload_n 0, 1) := by decide +kernel
theorem dX5_waysToGive_22 : decode cX5_waysToGive 22 = .ok (.getfield 23, 3) := by decide +kernel
theorem dX5_waysToGive_25 : decode cX5_waysToGive 25 = .ok (.iconst 0, 1) := by decide +kernel
theorem dX5_waysToGive_26 : decode cX5_waysToGive 26 = .ok (.iconst 1, 1) := by decide +kernel
theorem dX5_waysToGive_27 : decode cX5_waysToGive 27 = .ok (.iastore, 1) := by decide +kernel
theorem dX5_waysToGive_28 : decode cX5_waysToGive 28 = .ok (.iconst 0, 1) := by decide +kernel
theorem dX5_waysToGive_29 : decode cX5_waysToGive 29 = .ok (.istore_n 2, 1) := by decide +kernel
theorem dX5_waysToGive_30 : decode cX5_waysToGive 30 = .ok (.iload_n 2, 1) := by decide +kernel
theorem dX5_waysToGive_31 : decode cX5_waysToGive 31 = .ok (.bipush 6, 2) := by decide +kernel
theorem dX5_waysToGive_33 : decode cX5_waysToGive 33 = .ok (.if_icmp .ge 97, 3) := by decide +kernel
theorem dX5_waysToGive_36 : decode cX5_waysToGive 36 = .ok (.getstatic 26, 3) := by decide +kernel
theorem dX5_waysToGive_39 : decode cX5_waysToGive 39 = .ok (.iload_n 2, 1) := by decide +kernel
theorem dX5_waysToGive_40 : decode cX5_waysToGive 40 = .ok (.iaload, 1) := by decide +kernel
theorem dX5_waysToGive_41 : decode cX5_waysToGive 41 = .ok (.istore_n 3, 1) := by decide +kernel
theorem dX5_waysToGive_42 : decode cX5_waysToGive 42 = .ok (.iload_n 3, 1) := by decide +kernel
theorem dX5_waysToGive_43 : decode cX5_waysToGive 43 = .ok (.istore 4, 2) := by decide +kernel
theorem dX5_waysToGive_45 : decode cX5_waysToGive 45 = .ok (.iload 4, 2) := by decide +kernel
theorem dX5_waysToGive_47 : decode cX5_waysToGive 47 = .ok (.iload_n 1, 1) := by decide +kernel
theorem dX5_waysToGive_48 : decode cX5_waysToGive 48 = .ok (.if_icmp .gt 28, 3) := by decide +kernel
theorem dX5_waysToGive_51 : decode cX5_waysToGive 51 = .ok (.aload_n 0, 1) := by decide +kernel
theorem dX5_waysToGive_52 : decode cX5_waysToGive 52 = .ok (.getfield 23, 3) := by decide +kernel
theorem dX5_waysToGive_55 : decode cX5_waysToGive 55 = .ok (.iload 4, 2) := by decide +kernel
theorem dX5_waysToGive_57 : decode cX5_waysToGive 57 = .ok (.dup2, 1) := by decide +kernel
theorem dX5_waysToGive_58 : decode cX5_waysToGive 58 = .ok (.iaload, 1) := by decide +kernel
theorem dX5_waysToGive_59 : decode cX5_waysToGive 59 = .ok (.aload_n 0, 1) := by decide +kernel
theorem dX5_waysToGive_60 : decode cX5_waysToGive 60 = .ok (.getfield 23, 3) := by decide +kernel
theorem dX5_waysToGive_63 : decode cX5_waysToGive 63 = .ok (.iload 4, 2) := by decide +kernel
theorem dX5_waysToGive_65 : decode cX5_waysToGive 65 = .ok (.iload_n 3, 1) := by decide +kernel
theorem dX5_waysToGive_66 : decode cX5_waysToGive 66 = .ok (.isub, 1) := by decide +kernel
theorem dX5_waysToGive_67 : decode cX5_waysToGive 67 = .ok (.iaload, 1) := by decide +kernel
theorem dX5_waysToGive_68 : decode cX5_waysToGive 68 = .ok (.iadd, 1) := by decide +kernel
theorem dX5_waysToGive_69 : decode cX5_waysToGive 69 = .ok (.iastore, 1) := by decide +kernel
theorem dX5_waysToGive_70 : decode cX5_waysToGive 70 = .ok (.iinc 4 1, 3) := by decide +kernel
theorem dX5_waysToGive_73 : decode cX5_waysToGive 73 = .ok (.goto (-28), 3) := by decide +kernel
theorem dX5_waysToGive_76 : decode cX5_waysToGive 76 = .ok (.iload_n 3, 1) := by decide +kernel
theorem dX5_waysToGive_77 : decode cX5_waysToGive 77 = .ok (.aload_n 0, 1) := by decide +kernel
theorem dX5_waysToGive_78 : decode cX5_waysToGive 78 = .ok (.getfield 9, 3) := by decide +kernel
theorem dX5_waysToGive_81 : decode cX5_waysToGive 81 = .ok (.iload_n 2, 1) := by decide +kernel
theorem dX5_waysToGive_82 : decode cX5_waysToGive 82 = .ok (.iaload, 1) := by decide +kernel
theorem dX5_waysToGive_83 : decode cX5_waysToGive 83 = .ok (.iconst 1, 1) := by decide +kernel
theorem dX5_waysToGive_84 : decode cX5_waysToGive 84 = .ok (.iadd, 1) := by decide +kernel
theorem dX5_waysToGive_85 : decode cX5_waysToGive 85 = .ok (.imul, 1) := by decide +kernel
theorem dX5_waysToGive_86 : decode cX5_waysToGive 86 = .ok (.istore 4, 2) := by decide +kernel
theorem dX5_waysToGive_88 : decode cX5_waysToGive 88 = .ok (.iload_n 1, 1) := by decide +kernel
theorem dX5_waysToGive_89 : decode cX5_waysToGive 89 = .ok (.istore 5, 2) := by decide +kernel
theorem dX5_waysToGive_91 : decode cX5_waysToGive 91 = .ok (.iload 5, 2) := by decide +kernel
theorem dX5_waysToGive_93 : decode cX5_waysToGive 93 = .ok (.iload 4, 2) := by decide +kernel
theorem dX5_waysToGive_95 : decode cX5_waysToGive 95 = .ok (.if_icmp .lt 29, 3) := by decide +kernel
theorem dX5_waysToGive_98 : decode cX5_waysToGive 98 = .ok (.aload_n 0, 1) := by decide +kernel
theorem dX5_waysToGive_99 : decode cX5_waysToGive 99 = .ok (.getfield 23, 3) := by decide +kernel
theorem dX5_waysToGive_102 : decode cX5_waysToGive 102 = .ok (.iload 5, 2) := by decide +kernel
theorem dX5_waysToGive_104 : decode cX5_waysToGive 104 = .ok (.dup2, 1) := by decide +kernel
theorem dX5_waysToGive_105 : decode cX5_waysToGive 105 = .ok (.iaload, 1) := by decide +kernel
theorem dX5_waysToGive_106 : decode cX5_waysToGive 106 = .ok (.aload_n 0, 1) := by decide +kernel
theorem dX5_waysToGive_107 : decode cX5_waysToGive 107 = .ok (.getfield 23, 3) := by decide +kernel
theorem dX5_waysToGive_110 : decode cX5_waysToGive 110 = .ok (.iload 5, 2) := by decide +kernel
theorem dX5_waysToGive_112 : decode cX5_waysToGive 112 = .ok (.iload 4, 2) := by decide +kernel
theorem dX5_waysToGive_114 : decode cX5_waysToGive 114 = .ok (.isub, 1) := by decide +kernel
theorem dX5_waysToGive_115 : decode cX5_waysToGive 115 = .ok (.iaload, 1) := by decide +kernel
theorem dX5_waysToGive_116 : decode cX5_waysToGive 116 = .ok (.isub, 1) := by decide +kernel
theorem dX5_waysToGive_117 : decode cX5_waysToGive 117 = .ok (.iastore, 1) := by decide +kernel
theorem dX5_waysToGive_118 : decode cX5_waysToGive 118 = .ok (.iinc 5 (-1), 3) := by decide +kernel
theorem dX5_waysToGive_121 : decode cX5_waysToGive 121 = .ok (.goto (-30), 3) := by decide +kernel
theorem dX5_waysToGive_124 : decode cX5_waysToGive 124 = .ok (.iinc 2 1, 3) := by decide +kernel
theorem dX5_waysToGive_127 : decode cX5_waysToGive 127 = .ok (.goto (-97), 3) := by decide +kernel
theorem dX5_waysToGive_130 : decode cX5_waysToGive 130 = .ok (.aload_n 0, 1) := by decide +kernel
theorem dX5_waysToGive_131 : decode cX5_waysToGive 131 = .ok (.getfield 23, 3) := by decide +kernel
theorem dX5_waysToGive_134 : decode cX5_waysToGive 134 = .ok (.iload_n 1, 1) := by decide +kernel
theorem dX5_waysToGive_135 : decode cX5_waysToGive 135 = .ok (.iaload, 1) := by decide +kernel
theorem dX5_waysToGive_136 : decode cX5_waysToGive 136 = .ok (.ireturn, 1) := by decide +kernel
