theorem dX9_readTook_19 : decode cX9_readTook 19 = .ok (.aload_n 0, 1) := by decide +kernel
theorem dX9_readTook_20 : decode cX9_readTook 20 = .ok (.iconst 0, 1) := by decide +kernel
theorem dX9_readTook_21 : decode cX9_readTook 21 = .ok (.sipush 999, 3) := by decide +kernel
theorem dX9_readTook_24 : decode cX9_readTook 24 = .ok (.invokevirtual 138, 3) := by decide +kernel
theorem dX9_readTook_27 : decode cX9_readTook 27 = .ok (.istore_n 2, 1) := by decide +kernel
theorem dX9_readTook_28 : decode cX9_readTook 28 = .ok (.aload_n 0, 1) := by decide +kernel
theorem dX9_readTook_29 : decode cX9_readTook 29 = .ok (.ldc_w 305, 3) := by decide +kernel
theorem dX9_readTook_32 : decode cX9_readTook 32 = .ok (.iload_n 2, 1) := by decide +kernel
theorem dX9_readTook_33 : decode cX9_readTook 33 = .ok (.iconst 1, 1) := by decide +kernel
theorem dX9_readTook_34 : decode cX9_readTook 34 = .ok (.if_icmp .le 7, 3) := by decide +kernel
theorem dX9_readTook_37 : decode cX9_readTook 37 = .ok (.iload_n 2, 1) := by decide +kernel
theorem dX9_readTook_38 : decode cX9_readTook 38 = .ok (.goto 4, 3) := by decide +kernel
theorem dX9_readTook_41 : decode cX9_readTook 41 = .ok (.iconst 1, 1) := by decide +kernel
theorem dX9_readTook_42 : decode cX9_readTook 42 = .ok (.sipush 999, 3) := by decide +kernel
theorem dX9_readTook_45 : decode cX9_readTook 45 = .ok (.invokevirtual 257, 3) := by decide +kernel
theorem dX9_readTook_48 : decode cX9_readTook 48 = .ok (.istore_n 3, 1) := by decide +kernel
theorem dX9_readTook_49 : decode cX9_readTook 49 = .ok (.aload_n 0, 1) := by decide +kernel
theorem dX9_readTook_50 : decode cX9_readTook 50 = .ok (.getfield 80, 3) := by decide +kernel
theorem dX9_readTook_53 : decode cX9_readTook 53 = .ok (.iconst 5, 1) := by decide +kernel
theorem dX9_readTook_54 : decode cX9_readTook 54 = .ok (.if_icmp .ne 4, 3) := by decide +kernel
theorem dX9_readTook_57 : decode cX9_readTook 57 = .ok (.return_, 1) := by decide +kernel
theorem dX9_readTook_58 : decode cX9_readTook 58 = .ok (.aload_n 0, 1) := by decide +kernel
theorem dX9_readTook_59 : decode cX9_readTook 59 = .ok (.getfield 174, 3) := by decide +kernel
theorem dX9_readTook_62 : decode cX9_readTook 62 = .ok (.getfield 307, 3) := by decide +kernel
theorem dX9_readTook_65 : decode cX9_readTook 65 = .ok (.aload_n 0, 1) := by decide +kernel
theorem dX9_readTook_66 : decode cX9_readTook 66 = .ok (.getfield 174, 3) := by decide +kernel
theorem dX9_readTook_69 : decode cX9_readTook 69 = .ok (.getfield 302, 3) := by decide +kernel
theorem dX9_readTook_72 : decode cX9_readTook 72 = .ok (.iload_n 1, 1) := by decide +kernel
theorem dX9_readTook_73 : decode cX9_readTook 73 = .ok (.iastore, 1) := by decide +kernel
theorem dX9_readTook_74 : decode cX9_readTook 74 = .ok (.aload_n 0, 1) := by decide +kernel
theorem dX9_readTook_75 : decode cX9_readTook 75 = .ok (.getfield 174, 3) := by decide +kernel
theorem dX9_readTook_78 : decode cX9_readTook 78 = .ok (.getfield 310, 3) := by decide +kernel
theorem dX9_readTook_81 : decode cX9_readTook 81 = .ok (.aload_n 0, 1) := by decide +kernel
theorem dX9_readTook_82 : decode cX9_readTook 82 = .ok (.getfield 174, 3) := by decide +kernel
theorem dX9_readTook_85 : decode cX9_readTook 85 = .ok (.getfield 302, 3) := by decide +kernel
theorem dX9_readTook_88 : decode cX9_readTook 88 = .ok (.iload_n 2, 1) := by decide +kernel
theorem dX9_readTook_89 : decode cX9_readTook 89 = .ok (.iastore, 1) := by decide +kernel
theorem dX9_readTook_90 : decode cX9_readTook 90 = .ok (.aload_n 0, 1) := by decide +kernel
theorem dX9_readTook_91 : decode cX9_readTook 91 = .ok (.getfield 174, 3) := by decide +kernel
theorem dX9_readTook_94 : decode cX9_readTook 94 = .ok (.getfield 312, 3) := by decide +kernel
theorem dX9_readTook_97 : decode cX9_readTook 97 = .ok (.aload_n 0, 1) := by decide +kernel
theorem dX9_readTook_98 : decode cX9_readTook 98 = .ok (.getfield 174, 3) := by decide +kernel
theorem dX9_readTook_101 : decode cX9_readTook 101 = .ok (.getfield 302, 3) := by decide +kernel
theorem dX9_readTook_104 : decode cX9_readTook 104 = .ok (.iload_n 3, 1) := by decide +kernel
theorem dX9_readTook_105 : decode cX9_readTook 105 = .ok (.iastore, 1) := by decide +kernel
theorem dX9_readTook_106 : decode cX9_readTook 106 = .ok (.aload_n 0, 1) := by decide +kernel
theorem dX9_readTook_107 : decode cX9_readTook 107 = .ok (.getfield 174, 3) := by decide +kernel
theorem dX9_readTook_110 : decode cX9_readTook 110 = .ok (.dup, 1) := by decide +kernel
theorem dX9_readTook_111 : decode cX9_readTook 111 = .ok (.getfield 302, 3) := by decide +kernel
theorem dX9_readTook_114 : decode cX9_readTook 114 = .ok (.iconst 1, 1) := by decide +kernel
theorem dX9_readTook_115 : decode cX9_readTook 115 = .ok (.iadd, 1) := by decide +kernel
theorem dX9_readTook_116 : decode cX9_readTook 116 = .ok (.putfield 302, 3) := by decide +kernel
theorem dX9_readTook_119 : decode cX9_readTook 119 = .ok (.return_, 1) := by decide +kernel
theorem dX9_readTrolley_0 : decode cX9_readTrolley 0 = .ok (.aload_n 0, 1) := by decide +kernel
theorem dX9_readTrolley_1 : decode cX9_readTrolley 1 = .ok (.aload_n 0, 1) := by decide +kernel
theorem dX9_readTrolley_2 : decode cX9_readTrolley 2 = .ok (.getfield 174, 3) := by decide +kernel
theorem dX9_readTrolley_5 : decode cX9_readTrolley 5 = .ok (.getfield 214, 3) := by decide +kernel
theorem dX9_readTrolley_8 : decode cX9_readTrolley 8 = .ok (.iconst 2, 1) := by decide +kernel
theorem dX9_readTrolley_9 : decode cX9_readTrolley 9 = .ok (.invokevirtual 274, 3) := by decide +kernel
theorem dX9_readTrolley_12 : decode cX9_readTrolley 12 = .ok (.aload_n 0, 1) := by decide +kernel
theorem dX9_readTrolley_13 : decode cX9_readTrolley 13 = .ok (.iconst 1, 1) := by decide +kernel
theorem dX9_readTrolley_14 : decode cX9_readTrolley 14 = .ok (.aload_n 0, 1) := by decide +kernel
theorem dX9_readTrolley_15 : decode cX9_readTrolley 15 = .ok (.getfield 174, 3) := by decide +kernel
theorem dX9_readTrolley_18 : decode cX9_readTrolley 18 = .ok (.getfield 214, 3) := by decide +kernel
theorem dX9_readTrolley_21 : decode cX9_readTrolley 21 = .ok (.invokevirtual 278, 3) := by decide +kernel
theorem dX9_readTrolley_24 : decode cX9_readTrolley 24 = .ok (.aload_n 0, 1) := by decide +kernel
theorem dX9_readTrolley_25 : decode cX9_readTrolley 25 = .ok (.ldc_w 315, 3) := by decide +kernel
theorem dX9_readTrolley_28 : decode cX9_readTrolley 28 = .ok (.invokevirtual 119, 3) := by decide +kernel
theorem dX9_readTrolley_31 : decode cX9_readTrolley 31 = .ok (.ifCond .eq 7, 3) := by decide +kernel
theorem dX9_readTrolley_34 : decode cX9_readTrolley 34 = .ok (.iconst 0, 1) := by decide +kernel
theorem dX9_readTrolley_35 : decode cX9_readTrolley 35 = .ok (.goto 18, 3) := by decide +kernel
theorem dX9_readTrolley_38 : decode cX9_readTrolley 38 = .ok (.aload_n 0, 1) := by decide +kernel
theorem dX9_readTrolley_39 : decode cX9_readTrolley 39 = .ok (.ldc_w 317, 3) := by decide +kernel
theorem dX9_readTrolley_42 : decode cX9_readTrolley 42 = .ok (.invokevirtual 119, 3) := by decide +kernel
theorem dX9_readTrolley_45 : decode cX9_readTrolley 45 = .ok (.ifCond .eq 7, 3) := by decide +kernel
theorem dX9_readTrolley_48 : decode cX9_readTrolley 48 = .ok (.iconst 1, 1) := by decide +kernel
theorem dX9_readTrolley_49 : decode cX9_readTrolley 49 = .ok (.goto 4, 3) := by decide +kernel
theorem dX9_readTrolley_52 : decode cX9_readTrolley 52 = .ok (.iconst (-1), 1) := by decide +kernel
theorem dX9_readTrolley_53 : decode cX9_readTrolley 53 = .ok (.istore_n 1, 1) := by decide +kernel
theorem dX9_readTrolley_54 : decode cX9_readTrolley 54 = .ok (.iload_n 1, 1) := by decide +kernel
theorem dX9_readTrolley_55 : decode cX9_readTrolley 55 = .ok (.iconst (-1), 1) := by decide +kernel
theorem dX9_readTrolley_56 : decode cX9_readTrolley 56 = .ok (.if_icmp .ne 8, 3) := by decide +kernel
theorem dX9_readTrolley_59 : decode cX9_readTrolley 59 = .ok (.aload_n 0, 1) := by decide +kernel
theorem dX9_readTrolley_60 : decode cX9_readTrolley 60 = .ok (.iconst 1, 1) := by decide +kernel
theorem dX9_readTrolley_61 : decode cX9_readTrolley 61 = .ok (.invokevirtual 126, 3) := by decide +kernel
theorem dX9_readTrolley_64 : decode cX9_readTrolley 64 = .ok (.aload_n 0, 1) := by decide +kernel
theorem dX9_readTrolley_65 : decode cX9_readTrolley 65 = .ok (.getfield 174, 3) := by decide +kernel
theorem dX9_readTrolley_68 : decode cX9_readTrolley 68 = .ok (.iload_n 1, 1) := by decide +kernel
theorem dX9_readTrolley_69 : decode cX9_readTrolley 69 = .ok (.invokevirtual 319, 3) := by decide +kernel
theorem dX9_readTrolley_72 : decode cX9_readTrolley 72 = .ok (.iconst (-1), 1) := by decide +kernel
theorem dX9_readTrolley_73 : decode cX9_readTrolley 73 = .ok (.if_icmp .eq 8, 3) := by decide +kernel
theorem dX9_readTrolley_76 : decode cX9_readTrolley 76 = .ok (.aload_n 0, 1) := by decide +kernel
theorem dX9_readTrolley_77 : decode cX9_readTrolley 77 = .ok (.iconst 3, 1) := by decide +kernel
theorem dX9_readTrolley_78 : decode cX9_readTrolley 78 = .ok (.invokevirtual 126, 3) := by decide +kernel
theorem dX9_readTrolley_81 : decode cX9_readTrolley 81 = .ok (.aload_n 0, 1) := by decide +kernel
theorem dX9_readTrolley_82 : decode cX9_readTrolley 82 = .ok (.invokevirtual 123, 3) := by decide +kernel
theorem dX9_readTrolley_85 : decode cX9_readTrolley 85 = .ok (.aload_n 0, 1) := by decide +kernel
theorem dX9_readTrolley_86 : decode cX9_readTrolley 86 = .ok (.ldc_w 322, 3) := by decide +kernel
theorem dX9_readTrolley_89 : decode cX9_readTrolley 89 = .ok (.iconst 1, 1) := by decide +kernel
theorem dX9_readTrolley_90 : decode cX9_readTrolley 90 = .ok (.bipush 14, 2) := by decide +kernel
theorem dX9_readTrolley_92 : decode cX9_readTrolley 92 = .ok (.invokevirtual 257, 3) := by decide +kernel
theorem dX9_readTrolley_95 : decode cX9_readTrolley 95 = .ok (.istore_n 2, 1) := by decide +kernel
theorem dX9_readTrolley_96 : decode cX9_readTrolley 96 = .ok (.aload_n 0, 1) := by decide +kernel
theorem dX9_readTrolley_97 : decode cX9_readTrolley 97 = .ok (.ldc_w 324, 3) := by decide +kernel
theorem dX9_readTrolley_100 : decode cX9_readTrolley 100 = .ok (.bipush 8, 2) := by decide +kernel
theorem dX9_readTrolley_102 : decode cX9_readTrolley 102 = .ok (.bipush 40, 2) := by decide +kernel
theorem dX9_readTrolley_104 : decode cX9_readTrolley 104 = .ok (.invokevirtual 257, 3) := by decide +kernel
theorem dX9_readTrolley_107 : decode cX9_readTrolley 107 = .ok (.istore_n 3, 1) := by decide +kernel
theorem dX9_readTrolley_108 : decode cX9_readTrolley 108 = .ok (.aload_n 0, 1) := by decide +kernel
theorem dX9_readTrolley_109 : decode cX9_readTrolley 109 = .ok (.getfield 80, 3) := by decide +kernel
theorem dX9_readTrolley_112 : decode cX9_readTrolley 112 = .ok (.iconst 5, 1) := by decide +kernel
theorem dX9_readTrolley_113 : decode cX9_readTrolley 113 = .ok (.if_icmp .ne 4, 3) := by decide +kernel
theorem dX9_readTrolley_116 : decode cX9_readTrolley 116 = .ok (.return_, 1) := by decide +kernel
theorem dX9_readTrolley_117 : decode cX9_readTrolley 117 = .ok (.aload_n 0, 1) := by decide +kernel
theorem dX9_readTrolley_118 : decode cX9_readTrolley 118 = .ok (.getfield 174, 3) := by decide +kernel
theorem dX9_readTrolley_121 : decode cX9_readTrolley 121 = .ok (.getfield 326, 3) := by decide +kernel
theorem dX9_readTrolley_124 : decode cX9_readTrolley 124 = .ok (.aload_n 0, 1) := by decide +kernel
theorem dX9_readTrolley_125 : decode cX9_readTrolley 125 = .ok (.getfield 174, 3) := by decide +kernel
theorem dX9_readTrolley_128 : decode cX9_readTrolley 128 = .ok (.getfield 214, 3) := by decide +kernel
theorem dX9_readTrolley_131 : decode cX9_readTrolley 131 = .ok (.iload_n 1, 1) := by decide +kernel
theorem dX9_readTrolley_132 : decode cX9_readTrolley 132 = .ok (.iastore, 1) := by decide +kernel
theorem dX9_readTrolley_133 : decode cX9_readTrolley 133 = .ok (.aload_n 0, 1) := by decide +kernel
theorem dX9_readTrolley_134 : decode cX9_readTrolley 134 = .ok (.getfield 174, 3) := by decide +kernel
theorem dX9_readTrolley_137 : decode cX9_readTrolley 137 = .ok (.getfield 329, 3) := by decide +kernel
theorem dX9_readTrolley_140 : decode cX9_readTrolley 140 = .ok (.aload_n 0, 1) := by decide +kernel
theorem dX9_readTrolley_141 : decode cX9_readTrolley 141 = .ok (.getfield 174, 3) := by decide +kernel
theorem dX9_readTrolley_144 : decode cX9_readTrolley 144 = .ok (.getfield 214, 3) := by decide +kernel
theorem dX9_readTrolley_147 : decode cX9_readTrolley 147 = .ok (.iload_n 2, 1) := by decide +kernel
theorem dX9_readTrolley_148 : decode cX9_readTrolley 148 = .ok (.iastore, 1) := by decide +kernel
theorem dX9_readTrolley_149 : decode cX9_readTrolley 149 = .ok (.aload_n 0, 1) := by decide +kernel
theorem dX9_readTrolley_150 : decode cX9_readTrolley 150 = .ok (.getfield 174, 3) := by decide +kernel
theorem dX9_readTrolley_153 : decode cX9_readTrolley 153 = .ok (.getfield 331, 3) := by decide +kernel
theorem dX9_readTrolley_156 : decode cX9_readTrolley 156 = .ok (.aload_n 0, 1) := by decide +kernel
theorem dX9_readTrolley_157 : decode cX9_readTrolley 157 = .ok (.getfield 174, 3) := by decide +kernel
theorem dX9_readTrolley_160 : decode cX9_readTrolley 160 = .ok (.getfield 214, 3) := by decide +kernel
theorem dX9_readTrolley_163 : decode cX9_readTrolley 163 = .ok (.iload_n 3, 1) := by decide +kernel
theorem dX9_readTrolley_164 : decode cX9_readTrolley 164 = .ok (.iastore, 1) := by decide +kernel
theorem dX9_readTrolley_165 : decode cX9_readTrolley 165 = .ok (.aload_n 0, 1) := by decide +kernel
theorem dX9_readTrolley_166 : decode cX9_readTrolley 166 = .ok (.getfield 174, 3) := by decide +kernel
theorem dX9_readTrolley_169 : decode cX9_readTrolley 169 = .ok (.dup, 1) := by decide +kernel
theorem dX9_readTrolley_170 : decode cX9_readTrolley 170 = .ok (.getfield 214, 3) := by decide +kernel
theorem dX9_readTrolley_173 : decode cX9_readTrolley 173 = .ok (.iconst 1, 1) := by decide +kernel
theorem dX9_readTrolley_174 : decode cX9_readTrolley 174 = .ok (.iadd, 1) := by decide +kernel
theorem dX9_readTrolley_175 : decode cX9_readTrolley 175 = .ok (.putfield 214, 3) := by decide +kernel
theorem dX9_readTrolley_178 : decode cX9_readTrolley 178 = .ok (.return_, 1) := by decide +kernel
theorem dX9_readLoad_0 : decode cX9_readLoad 0 = .ok (.aload_n 0, 1) := by decide +kernel
theorem dX9_readLoad_1 : decode cX9_readLoad 1 = .ok (.aload_n 0, 1) := by decide +kernel
theorem dX9_readLoad_2 : decode cX9_readLoad 2 = .ok (.getfield 174, 3) := by decide +kernel
theorem dX9_readLoad_5 : decode cX9_readLoad 5 = .ok (.getfield 333, 3) := by decide +kernel
theorem dX9_readLoad_8 : decode cX9_readLoad 8 = .ok (.bipush 8, 2) := by decide +kernel
theorem dX9_readLoad_10 : decode cX9_readLoad 10 = .ok (.invokevirtual 274, 3) := by decide +kernel
theorem dX9_readLoad_13 : decode cX9_readLoad 13 = .ok (.aload_n 0, 1) := by decide +kernel
theorem dX9_readLoad_14 : decode cX9_readLoad 14 = .ok (.iconst 1, 1) := by decide +kernel
theorem dX9_readLoad_15 : decode cX9_readLoad 15 = .ok (.invokevirtual 292, 3) := by decide +kernel
theorem dX9_readLoad_18 : decode cX9_readLoad 18 = .ok (.istore_n 1, 1) := by decide +kernel
theorem dX9_readLoad_19 : decode cX9_readLoad 19 = .ok (.aload_n 0, 1) := by decide +kernel
theorem dX9_readLoad_20 : decode cX9_readLoad 20 = .ok (.iconst 0, 1) := by decide +kernel
theorem dX9_readLoad_21 : decode cX9_readLoad 21 = .ok (.invokevirtual 292, 3) := by decide +kernel
theorem dX9_readLoad_24 : decode cX9_readLoad 24 = .ok (.istore_n 2, 1) := by decide +kernel
theorem dX9_readLoad_25 : decode cX9_readLoad 25 = .ok (.aload_n 0, 1) := by decide +kernel
theorem dX9_readLoad_26 : decode cX9_readLoad 26 = .ok (.ldc_w 336, 3) := by decide +kernel
theorem dX9_readLoad_29 : decode cX9_readLoad 29 = .ok (.iconst 1, 1) := by decide +kernel
theorem dX9_readLoad_30 : decode cX9_readLoad 30 = .ok (.bipush 99, 2) := by decide +kernel
theorem dX9_readLoad_32 : decode cX9_readLoad 32 = .ok (.invokevirtual 257, 3) := by decide +kernel
theorem dX9_readLoad_35 : decode cX9_readLoad 35 = .ok (.istore_n 3, 1) := by decide +kernel
theorem dX9_readLoad_36 : decode cX9_readLoad 36 = .ok (.aload_n 0, 1) := by decide +kernel
theorem dX9_readLoad_37 : decode cX9_readLoad 37 = .ok (.getfield 80, 3) := by decide +kernel
theorem dX9_readLoad_40 : decode cX9_readLoad 40 = .ok (.iconst 5, 1) := by decide +kernel
theorem dX9_readLoad_41 : decode cX9_readLoad 41 = .ok (.if_icmp .ne 4, 3) := by decide +kernel
theorem dX9_readLoad_44 : decode cX9_readLoad 44 = .ok (.return_, 1) := by decide +kernel
theorem dX9_readLoad_45 : decode cX9_readLoad 45 = .ok (.aload_n 0, 1) := by decide +kernel
theorem dX9_readLoad_46 : decode cX9_readLoad 46 = .ok (.getfield 174, 3) := by decide +kernel
theorem dX9_readLoad_49 : decode cX9_readLoad 49 = .ok (.getfield 337, 3) := by decide +kernel
theorem dX9_readLoad_52 : decode cX9_readLoad 52 = .ok (.iconst 4, 1) := by decide +kernel
theorem dX9_readLoad_53 : decode cX9_readLoad 53 = .ok (.iload_n 1, 1) := by decide +kernel
theorem dX9_readLoad_54 : decode cX9_readLoad 54 = .ok (.imul, 1) := by decide +kernel
theorem dX9_readLoad_55 : decode cX9_readLoad 55 = .ok (.iload_n 2, 1) := by decide +kernel
theorem dX9_readLoad_56 : decode cX9_readLoad 56 = .ok (.iadd, 1) := by decide +kernel
theorem dX9_readLoad_57 : decode cX9_readLoad 57 = .ok (.dup2, 1) := by decide +kernel
theorem dX9_readLoad_58 : decode cX9_readLoad 58 = .ok (.iaload, 1) := by decide +kernel
theorem dX9_readLoad_59 : decode cX9_readLoad 59 = .ok (.iload_n 3, 1) := by decide +kernel
theorem dX9_readLoad_60 : decode cX9_readLoad 60 = .ok (.iadd, 1) := by decide +kernel
theorem dX9_readLoad_61 : decode cX9_readLoad 61 = .ok (.iastore, 1) := by decide +kernel
theorem dX9_readLoad_62 : decode cX9_readLoad 62 = .ok (.aload_n 0, 1) := by decide +kernel
theorem dX9_readLoad_63 : decode cX9_readLoad 63 = .ok (.getfield 174, 3) := by decide +kernel
theorem dX9_readLoad_66 : decode cX9_readLoad 66 = .ok (.dup, 1) := by decide +kernel
theorem dX9_readLoad_67 : decode cX9_readLoad 67 = .ok (.getfield 333, 3) := by decide +kernel
theorem dX9_readLoad_70 : decode cX9_readLoad 70 = .ok (.iconst 1, 1) := by decide +kernel
theorem dX9_readLoad_71 : decode cX9_readLoad 71 = .ok (.iadd, 1) := by decide +kernel
theorem dX9_readLoad_72 : decode cX9_readLoad 72 = .ok (.putfield 333, 3) := by decide +kernel
theorem dX9_readLoad_75 : decode cX9_readLoad 75 = .ok (.return_, 1) := by decide +kernel
theorem dX9_readBlock_0 : decode cX9_readBlock 0 = .ok (.aload_n 0, 1) := by decide +kernel
theorem dX9_readBlock_1 : decode cX9_readBlock 1 = .ok (.aload_n 0, 1) := by decide +kernel
theorem dX9_readBlock_2 : decode cX9_readBlock 2 = .ok (.getfield 174, 3) := by decide +kernel
theorem dX9_readBlock_5 : decode cX9_readBlock 5 = .ok (.getfield 339, 3) := by decide +kernel
theorem dX9_readBlock_8 : decode cX9_readBlock 8 = .ok (.iconst 5, 1) := by decide +kernel
theorem dX9_readBlock_9 : decode cX9_readBlock 9 = .ok (.invokevirtual 274, 3) := by decide +kernel
theorem dX9_readBlock_12 : decode cX9_readBlock 12 = .ok (.aload_n 0, 1) := by decide +kernel
theorem dX9_readBlock_13 : decode cX9_readBlock 13 = .ok (.iconst 1, 1) := by decide +kernel
theorem dX9_readBlock_14 : decode cX9_readBlock 14 = .ok (.bipush 40, 2) := by decide +kernel
theorem dX9_readBlock_16 : decode cX9_readBlock 16 = .ok (.invokevirtual 138, 3) := by decide +kernel
theorem dX9_readBlock_19 : decode cX9_readBlock 19 = .ok (.istore_n 1, 1) := by decide +kernel
theorem dX9_readBlock_20 : decode cX9_readBlock 20 = .ok (.aload_n 0, 1) := by decide +kernel
theorem dX9_readBlock_21 : decode cX9_readBlock 21 = .ok (.ldc_w 342, 3) := by decide +kernel
theorem dX9_readBlock_24 : decode cX9_readBlock 24 = .ok (.iload_n 1, 1) := by decide +kernel
theorem dX9_readBlock_25 : decode cX9_readBlock 25 = .ok (.bipush 40, 2) := by decide +kernel
theorem dX9_readBlock_27 : decode cX9_readBlock 27 = .ok (.invokevirtual 257, 3) := by decide +kernel
theorem dX9_readBlock_30 : decode cX9_readBlock 30 = .ok (.istore_n 2, 1) := by decide +kernel
theorem dX9_readBlock_31 : decode cX9_readBlock 31 = .ok (.aload_n 0, 1) := by decide +kernel
theorem dX9_readBlock_32 : decode cX9_readBlock 32 = .ok (.ldc_w 344, 3) := by decide +kernel
theorem dX9_readBlock_35 : decode cX9_readBlock 35 = .ok (.iconst 1, 1) := by decide +kernel
theorem dX9_readBlock_36 : decode cX9_readBlock 36 = .ok (.bipush 9, 2) := by decide +kernel
theorem dX9_readBlock_38 : decode cX9_readBlock 38 = .ok (.invokevirtual 257, 3) := by decide +kernel
theorem dX9_readBlock_41 : decode cX9_readBlock 41 = .ok (.istore_n 3, 1) := by decide +kernel
theorem dX9_readBlock_42 : decode cX9_readBlock 42 = .ok (.aload_n 0, 1) := by decide +kernel
theorem dX9_readBlock_43 : decode cX9_readBlock 43 = .ok (.ldc_w 346, 3) := by decide +kernel
theorem dX9_readBlock_46 : decode cX9_readBlock 46 = .ok (.invokevirtual 134, 3) := by decide +kernel
theorem dX9_readBlock_49 : decode cX9_readBlock 49 = .ok (.iconst 0, 1) := by decide +kernel
theorem dX9_readBlock_50 : decode cX9_readBlock 50 = .ok (.istore 4, 2) := by decide +kernel
theorem dX9_readBlock_52 : decode cX9_readBlock 52 = .ok (.iconst 0, 1) := by decide +kernel
theorem dX9_readBlock_53 : decode cX9_readBlock 53 = .ok (.istore 5, 2) := by decide +kernel
theorem dX9_readBlock_55 : decode cX9_readBlock 55 = .ok (.aload_n 0, 1) := by decide +kernel
theorem dX9_readBlock_56 : decode cX9_readBlock 56 = .ok (.getfield 80, 3) := by decide +kernel
theorem dX9_readBlock_59 : decode cX9_readBlock 59 = .ok (.iconst 5, 1) := by decide +kernel
theorem dX9_readBlock_60 : decode cX9_readBlock 60 = .ok (.if_icmp .eq 7, 3) := by decide +kernel
theorem dX9_readBlock_63 : decode cX9_readBlock 63 = .ok (.iconst 1, 1) := by decide +kernel
theorem dX9_readBlock_64 : decode cX9_readBlock 64 = .ok (.goto 4, 3) := by decide +kernel
theorem dX9_readBlock_67 : decode cX9_readBlock 67 = .ok (.iconst 0, 1) := by decide +kernel
theorem dX9_readBlock_68 : decode cX9_readBlock 68 = .ok (.istore 6, 2) := by decide +kernel
theorem dX9_readBlock_70 : decode cX9_readBlock 70 = .ok (.iload 6, 2) := by decide +kernel
theorem dX9_readBlock_72 : decode cX9_readBlock 72 = .ok (.ifCond .eq 115, 3) := by decide +kernel
theorem dX9_readBlock_75 : decode cX9_readBlock 75 = .ok (.aload_n 0, 1) := by decide +kernel
theorem dX9_readBlock_76 : decode cX9_readBlock 76 = .ok (.iconst 0, 1) := by decide +kernel
theorem dX9_readBlock_77 : decode cX9_readBlock 77 = .ok (.invokevirtual 196, 3) := by decide +kernel
theorem dX9_readBlock_80 : decode cX9_readBlock 80 = .ok (.istore 7, 2) := by decide +kernel
theorem dX9_readBlock_82 : decode cX9_readBlock 82 = .ok (.iload 5, 2) := by decide +kernel
theorem dX9_readBlock_84 : decode cX9_readBlock 84 = .ok (.iload 7, 2) := by decide +kernel
theorem dX9_readBlock_86 : decode cX9_readBlock 86 = .ok (.ishr, 1) := by decide +kernel
theorem dX9_readBlock_87 : decode cX9_readBlock 87 = .ok (.iconst 1, 1) := by decide +kernel
theorem dX9_readBlock_88 : decode cX9_readBlock 88 = .ok (.iand, 1) := by decide +kernel
theorem dX9_readBlock_89 : decode cX9_readBlock 89 = .ok (.iconst 1, 1) := by decide +kernel
theorem dX9_readBlock_90 : decode cX9_readBlock 90 = .ok (.if_icmp .ne 8, 3) := by decide +kernel
theorem dX9_readBlock_93 : decode cX9_readBlock 93 = .ok (.aload_n 0, 1) := by decide +kernel
theorem dX9_readBlock_94 : decode cX9_readBlock 94 = .ok (.iconst 3, 1) := by decide +kernel
theorem dX9_readBlock_95 : decode cX9_readBlock 95 = .ok (.invokevirtual 126, 3) := by decide +kernel
theorem dX9_readBlock_98 : decode cX9_readBlock 98 = .ok (.aload_n 0, 1) := by decide +kernel
theorem dX9_readBlock_99 : decode cX9_readBlock 99 = .ok (.invokevirtual 123, 3) := by decide +kernel
theorem dX9_readBlock_102 : decode cX9_readBlock 102 = .ok (.aload_n 0, 1) := by decide +kernel
theorem dX9_readBlock_103 : decode cX9_readBlock 103 = .ok (.iconst 1, 1) := by decide +kernel
theorem dX9_readBlock_104 : decode cX9_readBlock 104 = .ok (.bipush 9, 2) := by decide +kernel
theorem dX9_readBlock_106 : decode cX9_readBlock 106 = .ok (.invokevirtual 138, 3) := by decide +kernel
theorem dX9_readBlock_109 : decode cX9_readBlock 109 = .ok (.istore 8, 2) := by decide +kernel
theorem dX9_readBlock_111 : decode cX9_readBlock 111 = .ok (.aload_n 0, 1) := by decide +kernel
theorem dX9_readBlock_112 : decode cX9_readBlock 112 = .ok (.getfield 80, 3) := by decide +kernel
theorem dX9_readBlock_115 : decode cX9_readBlock 115 = .ok (.iconst 5, 1) := by decide +kernel
theorem dX9_readBlock_116 : decode cX9_readBlock 116 = .ok (.if_icmp .ne 4, 3) := by decide +kernel
theorem dX9_readBlock_119 : decode cX9_readBlock 119 = .ok (.return_, 1) := by decide +kernel
theorem dX9_readBlock_120 : decode cX9_readBlock 120 = .ok (.iload 5, 2) := by decide +kernel
theorem dX9_readBlock_122 : decode cX9_readBlock 122 = .ok (.iconst 1, 1) := by decide +kernel
theorem dX9_readBlock_123 : decode cX9_readBlock 123 = .ok (.iload 7, 2) := by decide +kernel
theorem dX9_readBlock_125 : decode cX9_readBlock 125 = .ok (.ishl, 1) := by decide +kernel
theorem dX9_readBlock_126 : decode cX9_readBlock 126 = .ok (.ior, 1) := by decide +kernel
theorem dX9_readBlock_127 : decode cX9_readBlock 127 = .ok (.istore 5, 2) := by decide +kernel
theorem dX9_readBlock_129 : decode cX9_readBlock 129 = .ok (.aload_n 0, 1) := by decide +kernel
theorem dX9_readBlock_130 : decode cX9_readBlock 130 = .ok (.getfield 174, 3) := by decide +kernel
theorem dX9_readBlock_133 : decode cX9_readBlock 133 = .ok (.getfield 348, 3) := by decide +kernel
theorem dX9_readBlock_136 : decode cX9_readBlock 136 = .ok (.iconst 4, 1) := by decide +kernel
theorem dX9_readBlock_137 : decode cX9_readBlock 137 = .ok (.aload_n 0, 1) := by decide +kernel
theorem dX9_readBlock_138 : decode cX9_readBlock 138 = .ok (.getfield 174, 3) := by decide +kernel
theorem dX9_readBlock_141 : decode cX9_readBlock 141 = .ok (.getfield 339, 3) := by decide +kernel
theorem dX9_readBlock_144 : decode cX9_readBlock 144 = .ok (.imul, 1) := by decide +kernel
theorem dX9_readBlock_145 : decode cX9_readBlock 145 = .ok (.iload 4, 2) := by decide +kernel
theorem dX9_readBlock_147 : decode cX9_readBlock 147 = .ok (.iadd, 1) := by decide +kernel
theorem dX9_readBlock_148 : decode cX9_readBlock 148 = .ok (.iload 7, 2) := by decide +kernel
theorem dX9_readBlock_150 : decode cX9_readBlock 150 = .ok (.iastore, 1) := by decide +kernel
theorem dX9_readBlock_151 : decode cX9_readBlock 151 = .ok (.aload_n 0, 1) := by decide +kernel
theorem dX9_readBlock_152 : decode cX9_readBlock 152 = .ok (.getfield 174, 3) := by decide +kernel
theorem dX9_readBlock_155 : decode cX9_readBlock 155 = .ok (.getfield 351, 3) := by decide +kernel
theorem dX9_readBlock_158 : decode cX9_readBlock 158 = .ok (.iconst 4, 1) := by decide +kernel
theorem dX9_readBlock_159 : decode cX9_readBlock 159 = .ok (.aload_n 0, 1) := by decide +kernel
theorem dX9_readBlock_160 : decode cX9_readBlock 160 = .ok (.getfield 174, 3) := by decide +kernel
theorem dX9_readBlock_163 : decode cX9_readBlock 163 = .ok (.getfield 339, 3) := by decide +kernel
theorem dX9_readBlock_166 : decode cX9_readBlock 166 = .ok (.imul, 1) := by decide +kernel
theorem dX9_readBlock_167 : decode cX9_readBlock 167 = .ok (.iload 4, 2) := by decide +kernel
theorem dX9_readBlock_169 : decode cX9_readBlock 169 = .ok (.iadd, 1) := by decide +kernel
theorem dX9_readBlock_170 : decode cX9_readBlock 170 = .ok (.iload 8, 2) := by decide +kernel
theorem dX9_readBlock_172 : decode cX9_readBlock 172 = .ok (.iastore, 1) := by decide +kernel
theorem dX9_readBlock_173 : decode cX9_readBlock 173 = .ok (.iinc 4 1, 3) := by decide +kernel
theorem dX9_readBlock_176 : decode cX9_readBlock 176 = .ok (.aload_n 0, 1) := by decide +kernel
theorem dX9_readBlock_177 : decode cX9_readBlock 177 = .ok (.bipush 44, 2) := by decide +kernel
theorem dX9_readBlock_179 : decode cX9_readBlock 179 = .ok (.invokevirtual 202, 3) := by decide +kernel
theorem dX9_readBlock_182 : decode cX9_readBlock 182 = .ok (.istore 6, 2) := by decide +kernel
theorem dX9_readBlock_184 : decode cX9_readBlock 184 = .ok (.goto (-114), 3) := by decide +kernel
theorem dX9_readBlock_187 : decode cX9_readBlock 187 = .ok (.aload_n 0, 1) := by decide +kernel
theorem dX9_readBlock_188 : decode cX9_readBlock 188 = .ok (.getfield 80, 3) := by decide +kernel
theorem dX9_readBlock_191 : decode cX9_readBlock 191 = .ok (.iconst 5, 1) := by decide +kernel
theorem dX9_readBlock_192 : decode cX9_readBlock 192 = .ok (.if_icmp .ne 4, 3) := by decide +kernel
theorem dX9_readBlock_195 : decode cX9_readBlock 195 = .ok (.return_, 1) := by decide +kernel
theorem dX9_readBlock_196 : decode cX9_readBlock 196 = .ok (.aload_n 0, 1) := by decide +kernel
theorem dX9_readBlock_197 : decode cX9_readBlock 197 = .ok (.getfield 174, 3) := by decide +kernel
theorem dX9_readBlock_200 : decode cX9_readBlock 200 = .ok (.getfield 354, 3) := by decide +kernel
theorem dX9_readBlock_203 : decode cX9_readBlock 203 = .ok (.aload_n 0, 1) := by decide +kernel
theorem dX9_readBlock_204 : decode cX9_readBlock 204 = .ok (.getfield 174, 3) := by decide +kernel
theorem dX9_readBlock_207 : decode cX9_readBlock 207 = .ok (.getfield 339, 3) := by decide +kernel
theorem dX9_readBlock_210 : decode cX9_readBlock 210 = .ok (.iload_n 1, 1) := by decide +kernel
theorem dX9_readBlock_211 : decode cX9_readBlock 211 = .ok (.iastore, 1) := by decide +kernel
theorem dX9_readBlock_212 : decode cX9_readBlock 212 = .ok (.aload_n 0, 1) := by decide +kernel
theorem dX9_readBlock_213 : decode cX9_readBlock 213 = .ok (.getfield 174, 3) := by decide +kernel
theorem dX9_readBlock_216 : decode cX9_readBlock 216 = .ok (.getfield 357, 3) := by decide +kernel
theorem dX9_readBlock_219 : decode cX9_readBlock 219 = .ok (.aload_n 0, 1) := by decide +kernel
theorem dX9_readBlock_220 : decode cX9_readBlock 220 = .ok (.getfield 174, 3) := by decide +kernel
theorem dX9_readBlock_223 : decode cX9_readBlock 223 = .ok (.getfield 339, 3) := by decide +kernel
theorem dX9_readBlock_226 : decode cX9_readBlock 226 = .ok (.iload_n 2, 1) := by decide +kernel
theorem dX9_readBlock_227 : decode cX9_readBlock 227 = .ok (.iastore, 1) := by decide +kernel
theorem dX9_readBlock_228 : decode cX9_readBlock 228 = .ok (.aload_n 0, 1) := by decide +kernel
theorem dX9_readBlock_229 : decode cX9_readBlock 229 = .ok (.getfield 174, 3) := by decide +kernel
theorem dX9_readBlock_232 : decode cX9_readBlock 232 = .ok (.getfield 360, 3) := by decide +kernel
theorem dX9_readBlock_235 : decode cX9_readBlock 235 = .ok (.aload_n 0, 1) := by decide +kernel
theorem dX9_readBlock_236 : decode cX9_readBlock 236 = .ok (.getfield 174, 3) := by decide +kernel
theorem dX9_readBlock_239 : decode cX9_readBlock 239 = .ok (.getfield 339, 3) := by decide +kernel
theorem dX9_readBlock_242 : decode cX9_readBlock 242 = .ok (.iload_n 3, 1) := by decide +kernel
theorem dX9_readBlock_243 : decode cX9_readBlock 243 = .ok (.iastore, 1) := by decide +kernel
theorem dX9_readBlock_244 : decode cX9_readBlock 244 = .ok (.aload_n 0, 1) := by decide +kernel
theorem dX9_readBlock_245 : decode cX9_readBlock 245 = .ok (.getfield 174, 3) := by decide +kernel
theorem dX9_readBlock_248 : decode cX9_readBlock 248 = .ok (.getfield 362, 3) := by decide +kernel
theorem dX9_readBlock_251 : decode cX9_readBlock 251 = .ok (.aload_n 0, 1) := by decide +kernel
theorem dX9_readBlock_252 : decode cX9_readBlock 252 = .ok (.getfield 174, 3) := by decide +kernel
theorem dX9_readBlock_255 : decode cX9_readBlock 255 = .ok (.getfield 339, 3) := by decide +kernel
theorem dX9_readBlock_258 : decode cX9_readBlock 258 = .ok (.iload 4, 2) := by decide +kernel
theorem dX9_readBlock_260 : decode cX9_readBlock 260 = .ok (.iastore, 1) := by decide +kernel
theorem dX9_readBlock_261 : decode cX9_readBlock 261 = .ok (.aload_n 0, 1) := by decide +kernel
theorem dX9_readBlock_262 : decode cX9_readBlock 262 = .ok (.getfield 174, 3) := by decide +kernel
theorem dX9_readBlock_265 : decode cX9_readBlock 265 = .ok (.dup, 1) := by decide +kernel
theorem dX9_readBlock_266 : decode cX9_readBlock 266 = .ok (.getfield 339, 3) := by decide +kernel
theorem dX9_readBlock_269 : decode cX9_readBlock 269 = .ok (.iconst 1, 1) := by decide +kernel
theorem dX9_readBlock_270 : decode cX9_readBlock 270 = .ok (.iadd, 1) := by decide +kernel
theorem dX9_readBlock_271 : decode cX9_readBlock 271 = .ok (.putfield 339, 3) := by decide +kernel
theorem dX9_readBlock_274 : decode cX9_readBlock 274 = .ok (.return_, 1) := by decide +kernel
theorem dX9_readNamed_0 : decode cX9_readNamed 0 = .ok (.aload_n 0, 1) := by decide +kernel
theorem dX9_readNamed_1 : decode cX9_readNamed 1 = .ok (.aload_n 0, 1) := by decide +kernel
theorem dX9_readNamed_2 : decode cX9_readNamed 2 = .ok (.getfield 174, 3) := by decide +kernel
theorem dX9_readNamed_5 : decode cX9_readNamed 5 = .ok (.getfield 365, 3) := by decide +kernel
theorem dX9_readNamed_8 : decode cX9_readNamed 8 = .ok (.bipush 6, 2) := by decide +kernel
theorem dX9_readNamed_10 : decode cX9_readNamed 10 = .ok (.invokevirtual 274, 3) := by decide +kernel
theorem dX9_readNamed_13 : decode cX9_readNamed 13 = .ok (.aload_n 0, 1) := by decide +kernel
theorem dX9_readNamed_14 : decode cX9_readNamed 14 = .ok (.iconst 2, 1) := by decide +kernel
theorem dX9_readNamed_15 : decode cX9_readNamed 15 = .ok (.aload_n 0, 1) := by decide +kernel
theorem dX9_readNamed_16 : decode cX9_readNamed 16 = .ok (.getfield 174, 3) := by decide +kernel
theorem dX9_readNamed_19 : decode cX9_readNamed 19 = .ok (.getfield 365, 3) := by decide +kernel
theorem dX9_readNamed_22 : decode cX9_readNamed 22 = .ok (.invokevirtual 278, 3) := by decide +kernel
theorem dX9_readNamed_25 : decode cX9_readNamed 25 = .ok (.aload_n 0, 1) := by decide +kernel
theorem dX9_readNamed_26 : decode cX9_readNamed 26 = .ok (.ldc_w 368, 3) := by decide +kernel
theorem dX9_readNamed_29 : decode cX9_readNamed 29 = .ok (.iconst 1, 1) := by decide +kernel
theorem dX9_readNamed_30 : decode cX9_readNamed 30 = .ok (.bipush 40, 2) := by decide +kernel
theorem dX9_readNamed_32 : decode cX9_readNamed 32 = .ok (.invokevirtual 257, 3) := by decide +kernel
theorem dX9_readNamed_35 : decode cX9_readNamed 35 = .ok (.istore_n 1, 1) := by decide +kernel
theorem dX9_readNamed_36 : decode cX9_readNamed 36 = .ok (.aload_n 0, 1) := by decide +kernel
theorem dX9_readNamed_37 : decode cX9_readNamed 37 = .ok (.ldc_w 370, 3) := by decide +kernel
theorem dX9_readNamed_40 : decode cX9_readNamed 40 = .ok (.invokevirtual 134, 3) := by decide +kernel
theorem dX9_readNamed_43 : decode cX9_readNamed 43 = .ok (.aload_n 0, 1) := by decide +kernel
theorem dX9_readNamed_44 : decode cX9_readNamed 44 = .ok (.iconst 0, 1) := by decide +kernel
theorem dX9_readNamed_45 : decode cX9_readNamed 45 = .ok (.invokevirtual 292, 3) := by decide +kernel
theorem dX9_readNamed_48 : decode cX9_readNamed 48 = .ok (.istore_n 2, 1) := by decide +kernel
theorem dX9_readNamed_49 : decode cX9_readNamed 49 = .ok (.aload_n 0, 1) := by decide +kernel
theorem dX9_readNamed_50 : decode cX9_readNamed 50 = .ok (.ldc 168, 2) := by decide +kernel
theorem dX9_readNamed_52 : decode cX9_readNamed 52 = .ok (.invokevirtual 372, 3) := by decide +kernel
theorem dX9_readNamed_55 : decode cX9_readNamed 55 = .ok (.istore_n 3, 1) := by decide +kernel
theorem dX9_readNamed_56 : decode cX9_readNamed 56 = .ok (.aload_n 0, 1) := by decide +kernel
theorem dX9_readNamed_57 : decode cX9_readNamed 57 = .ok (.getfield 80, 3) := by decide +kernel
theorem dX9_readNamed_60 : decode cX9_readNamed 60 = .ok (.iconst 5, 1) := by decide +kernel
theorem dX9_readNamed_61 : decode cX9_readNamed 61 = .ok (.if_icmp .ne 4, 3) := by decide +kernel
theorem dX9_readNamed_64 : decode cX9_readNamed 64 = .ok (.return_, 1) := by decide +kernel
theorem dX9_readNamed_65 : decode cX9_readNamed 65 = .ok (.aload_n 0, 1) := by decide +kernel
theorem dX9_readNamed_66 : decode cX9_readNamed 66 = .ok (.getfield 174, 3) := by decide +kernel
theorem dX9_readNamed_69 : decode cX9_readNamed 69 = .ok (.getfield 375, 3) := by decide +kernel
theorem dX9_readNamed_72 : decode cX9_readNamed 72 = .ok (.aload_n 0, 1) := by decide +kernel
theorem dX9_readNamed_73 : decode cX9_readNamed 73 = .ok (.getfield 174, 3) := by decide +kernel
theorem dX9_readNamed_76 : decode cX9_readNamed 76 = .ok (.getfield 365, 3) := by decide +kernel
theorem dX9_readNamed_79 : decode cX9_readNamed 79 = .ok (.iload_n 1, 1) := by decide +kernel
theorem dX9_readNamed_80 : decode cX9_readNamed 80 = .ok (.iastore, 1) := by decide +kernel
theorem dX9_readNamed_81 : decode cX9_readNamed 81 = .ok (.aload_n 0, 1) := by decide +kernel
theorem dX9_readNamed_82 : decode cX9_readNamed 82 = .ok (.getfield 174, 3) := by decide +kernel
theorem dX9_readNamed_85 : decode cX9_readNamed 85 = .ok (.getfield 378, 3) := by decide +kernel
theorem dX9_readNamed_88 : decode cX9_readNamed 88 = .ok (.aload_n 0, 1) := by decide +kernel
theorem dX9_readNamed_89 : decode cX9_readNamed 89 = .ok (.getfield 174, 3) := by decide +kernel
theorem dX9_readNamed_92 : decode cX9_readNamed 92 = .ok (.getfield 365, 3) := by decide +kernel
theorem dX9_readNamed_95 : decode cX9_readNamed 95 = .ok (.iload_n 2, 1) := by decide +kernel
theorem dX9_readNamed_96 : decode cX9_readNamed 96 = .ok (.iastore, 1) := by decide +kernel
theorem dX9_readNamed_97 : decode cX9_readNamed 97 = .ok (.aload_n 0, 1) := by decide +kernel
theorem dX9_readNamed_98 : decode cX9_readNamed 98 = .ok (.getfield 174, 3) := by decide +kernel
theorem dX9_readNamed_101 : decode cX9_readNamed 101 = .ok (.getfield 380, 3) := by decide +kernel
theorem dX9_readNamed_104 : decode cX9_readNamed 104 = .ok (.aload_n 0, 1) := by decide +kernel
theorem dX9_readNamed_105 : decode cX9_readNamed 105 = .ok (.getfield 174, 3) := by decide +kernel
theorem dX9_readNamed_108 : decode cX9_readNamed 108 = .ok (.getfield 365, 3) := by decide +kernel
theorem dX9_readNamed_111 : decode cX9_readNamed 111 = .ok (.iload_n 3, 1) := by decide +kernel
theorem dX9_readNamed_112 : decode cX9_readNamed 112 = .ok (.bastore, 1) := by decide +kernel
theorem dX9_readNamed_113 : decode cX9_readNamed 113 = .ok (.aload_n 0, 1) := by decide +kernel
theorem dX9_readNamed_114 : decode cX9_readNamed 114 = .ok (.getfield 174, 3) := by decide +kernel
theorem dX9_readNamed_117 : decode cX9_readNamed 117 = .ok (.dup, 1) := by decide +kernel
theorem dX9_readNamed_118 : decode cX9_readNamed 118 = .ok (.getfield 365, 3) := by decide +kernel
theorem dX9_readNamed_121 : decode cX9_readNamed 121 = .ok (.iconst 1, 1) := by decide +kernel
theorem dX9_readNamed_122 : decode cX9_readNamed 122 = .ok (.iadd, 1) := by decide +kernel
theorem dX9_readNamed_123 : decode cX9_readNamed 123 = .ok (.putfield 365, 3) := by decide +kernel
theorem dX9_readNamed_126 : decode cX9_readNamed 126 = .ok (.return_, 1) := by decide +kernel
theorem dX9_readBelts_0 : decode cX9_readBelts 0 = .ok (.aload_n 0, 1) := by decide +kernel
theorem dX9_readBelts_1 : decode cX9_readBelts 1 = .ok (.aload_n 0, 1) := by decide +kernel
theorem dX9_readBelts_2 : decode cX9_readBelts 2 = .ok (.getfield 174, 3) := by decide +kernel
theorem dX9_readBelts_5 : decode cX9_readBelts 5 = .ok (.getfield 384, 3) := by decide +kernel
theorem dX9_readBelts_8 : decode cX9_readBelts 8 = .ok (.iconst 3, 1) := by decide +kernel
theorem dX9_readBelts_9 : decode cX9_readBelts 9 = .ok (.invokevirtual 274, 3) := by decide +kernel
theorem dX9_readBelts_12 : decode cX9_readBelts 12 = .ok (.aload_n 0, 1) := by decide +kernel
theorem dX9_readBelts_13 : decode cX9_readBelts 13 = .ok (.iconst 0, 1) := by decide +kernel
theorem dX9_readBelts_14 : decode cX9_readBelts 14 = .ok (.sipush 300, 3) := by decide +kernel
theorem dX9_readBelts_17 : decode cX9_readBelts 17 = .ok (.invokevirtual 138, 3) := by decide +kernel
theorem dX9_readBelts_20 : decode cX9_readBelts 20 = .ok (.istore_n 1, 1) := by decide +kernel
theorem dX9_readBelts_21 : decode cX9_readBelts 21 = .ok (.aload_n 0, 1) := by decide +kernel
theorem dX9_readBelts_22 : decode cX9_readBelts 22 = .ok (.ldc_w 342, 3) := by decide +kernel
theorem dX9_readBelts_25 : decode cX9_readBelts 25 = .ok (.iload_n 1, 1) := by decide +kernel
theorem dX9_readBelts_26 : decode cX9_readBelts 26 = .ok (.iconst 1, 1) := by decide +kernel
theorem dX9_readBelts_27 : decode cX9_readBelts 27 = .ok (.iadd, 1) := by decide +kernel
theorem dX9_readBelts_28 : decode cX9_readBelts 28 = .ok (.sipush 400, 3) := by decide +kernel
theorem dX9_readBelts_31 : decode cX9_readBelts 31 = .ok (.invokevirtual 257, 3) := by decide +kernel
theorem dX9_readBelts_34 : decode cX9_readBelts 34 = .ok (.istore_n 2, 1) := by decide +kernel
theorem dX9_readBelts_35 : decode cX9_readBelts 35 = .ok (.aload_n 0, 1) := by decide +kernel
theorem dX9_readBelts_36 : decode cX9_readBelts 36 = .ok (.getfield 80, 3) := by decide +kernel
theorem dX9_readBelts_39 : decode cX9_readBelts 39 = .ok (.iconst 5, 1) := by decide +kernel
theorem dX9_readBelts_40 : decode cX9_readBelts 40 = .ok (.if_icmp .ne 4, 3) := by decide +kernel
theorem dX9_readBelts_43 : decode cX9_readBelts 43 = .ok (.return_, 1) := by decide +kernel
theorem dX9_readBelts_44 : decode cX9_readBelts 44 = .ok (.aload_n 0, 1) := by decide +kernel
theorem dX9_readBelts_45 : decode cX9_readBelts 45 = .ok (.getfield 174, 3) := by decide +kernel
theorem dX9_readBelts_48 : decode cX9_readBelts 48 = .ok (.getfield 386, 3) := by decide +kernel
theorem dX9_readBelts_51 : decode cX9_readBelts 51 = .ok (.aload_n 0, 1) := by decide +kernel
theorem dX9_readBelts_52 : decode cX9_readBelts 52 = .ok (.getfield 174, 3) := by decide +kernel
theorem dX9_readBelts_55 : decode cX9_readBelts 55 = .ok (.getfield 384, 3) := by decide +kernel
theorem dX9_readBelts_58 : decode cX9_readBelts 58 = .ok (.iload_n 1, 1) := by decide +kernel
theorem dX9_readBelts_59 : decode cX9_readBelts 59 = .ok (.iastore, 1) := by decide +kernel
theorem dX9_readBelts_60 : decode cX9_readBelts 60 = .ok (.aload_n 0, 1) := by decide +kernel
theorem dX9_readBelts_61 : decode cX9_readBelts 61 = .ok (.getfield 174, 3) := by decide +kernel
theorem dX9_readBelts_64 : decode cX9_readBelts 64 = .ok (.getfield 389, 3) := by decide +kernel
theorem dX9_readBelts_67 : decode cX9_readBelts 67 = .ok (.aload_n 0, 1) := by decide +kernel
theorem dX9_readBelts_68 : decode cX9_readBelts 68 = .ok (.getfield 174, 3) := by decide +kernel
theorem dX9_readBelts_71 : decode cX9_readBelts 71 = .ok (.getfield 384, 3) := by decide +kernel
theorem dX9_readBelts_74 : decode cX9_readBelts 74 = .ok (.iload_n 2, 1) := by decide +kernel
theorem dX9_readBelts_75 : decode cX9_readBelts 75 = .ok (.iastore, 1) := by decide +kernel
theorem dX9_readBelts_76 : decode cX9_readBelts 76 = .ok (.aload_n 0, 1) := by decide +kernel
theorem dX9_readBelts_77 : decode cX9_readBelts 77 = .ok (.getfield 174, 3) := by decide +kernel
theorem dX9_readBelts_80 : decode cX9_readBelts 80 = .ok (.dup, 1) := by decide +kernel
theorem dX9_readBelts_81 : decode cX9_readBelts 81 = .ok (.getfield 384, 3) := by decide +kernel
theorem dX9_readBelts_84 : decode cX9_readBelts 84 = .ok (.iconst 1, 1) := by decide +kernel
theorem dX9_readBelts_85 : decode cX9_readBelts 85 = .ok (.iadd, 1) := by decide +kernel
theorem dX9_readBelts_86 : decode cX9_readBelts 86 = .ok (.putfield 384, 3) := by decide +kernel
theorem dX9_readBelts_89 : decode cX9_readBelts 89 = .ok (.return_, 1) := by decide +kernel
theorem dX9_readGap_0 : decode cX9_readGap 0 = .ok (.aload_n 0, 1) := by decide +kernel
theorem dX9_readGap_1 : decode cX9_readGap 1 = .ok (.aload_n 0, 1) := by decide +kernel
theorem dX9_readGap_2 : decode cX9_readGap 2 = .ok (.getfield 174, 3) := by decide +kernel
theorem dX9_readGap_5 : decode cX9_readGap 5 = .ok (.getfield 392, 3) := by decide +kernel
theorem dX9_readGap_8 : decode cX9_readGap 8 = .ok (.iconst 3, 1) := by decide +kernel
theorem dX9_readGap_9 : decode cX9_readGap 9 = .ok (.invokevirtual 274, 3) := by decide +kernel
theorem dX9_readGap_12 : decode cX9_readGap 12 = .ok (.aload_n 0, 1) := by decide +kernel
theorem dX9_readGap_13 : decode cX9_readGap 13 = .ok (.iconst 1, 1) := by decide +kernel
theorem dX9_readGap_14 : decode cX9_readGap 14 = .ok (.bipush 40, 2) := by decide +kernel
theorem dX9_readGap_16 : decode cX9_readGap 16 = .ok (.invokevirtual 138, 3) := by decide +kernel
theorem dX9_readGap_19 : decode cX9_readGap 19 = .ok (.istore_n 1, 1) := by decide +kernel
theorem dX9_readGap_20 : decode cX9_readGap 20 = .ok (.aload_n 0, 1) := by decide +kernel
theorem dX9_readGap_21 : decode cX9_readGap 21 = .ok (.getfield 80, 3) := by decide +kernel
theorem dX9_readGap_24 : decode cX9_readGap 24 = .ok (.iconst 5, 1) := by decide +kernel
theorem dX9_readGap_25 : decode cX9_readGap 25 = .ok (.if_icmp .ne 4, 3) := by decide +kernel
theorem dX9_readGap_28 : decode cX9_readGap 28 = .ok (.return_, 1) := by decide +kernel
theorem dX9_readGap_29 : decode cX9_readGap 29 = .ok (.aload_n 0, 1) := by decide +kernel
theorem dX9_readGap_30 : decode cX9_readGap 30 = .ok (.getfield 174, 3) := by decide +kernel
theorem dX9_readGap_33 : decode cX9_readGap 33 = .ok (.getfield 395, 3) := by decide +kernel
theorem dX9_readGap_36 : decode cX9_readGap 36 = .ok (.aload_n 0, 1) := by decide +kernel
theorem dX9_readGap_37 : decode cX9_readGap 37 = .ok (.getfield 174, 3) := by decide +kernel
theorem dX9_readGap_40 : decode cX9_readGap 40 = .ok (.getfield 392, 3) := by decide +kernel
theorem dX9_readGap_43 : decode cX9_readGap 43 = .ok (.iload_n 1, 1) := by decide +kernel
theorem dX9_readGap_44 : decode cX9_readGap 44 = .ok (.iastore, 1) := by decide +kernel
theorem dX9_readGap_45 : decode cX9_readGap 45 = .ok (.aload_n 0, 1) := by decide +kernel
theorem dX9_readGap_46 : decode cX9_readGap 46 = .ok (.getfield 174, 3) := by decide +kernel
theorem dX9_readGap_49 : decode cX9_readGap 49 = .ok (.dup, 1) := by decide +kernel
theorem dX9_readGap_50 : decode cX9_readGap 50 = .ok (.getfield 392, 3) := by decide +kernel
theorem dX9_readGap_53 : decode cX9_readGap 53 = .ok (.iconst 1, 1) := by decide +kernel
theorem dX9_readGap_54 : decode cX9_readGap 54 = .ok (.iadd, 1) := by decide +kernel
theorem dX9_readGap_55 : decode cX9_readGap 55 = .ok (.putfield 392, 3) := by decide +kernel
theorem dX9_readGap_58 : decode cX9_readGap 58 = .ok (.return_, 1) := by decide +kernel
theorem dX9_readPast_0 : decode cX9_readPast 0 = .ok (.aload_n 0, 1) := by decide +kernel
theorem dX9_readPast_1 : decode cX9_readPast 1 = .ok (.aload_n 0, 1) := by decide +kernel
theorem dX9_readPast_2 : decode cX9_readPast 2 = .ok (.getfield 174, 3) := by decide +kernel
theorem dX9_readPast_5 : decode cX9_readPast 5 = .ok (.getfield 397, 3) := by decide +kernel
theorem dX9_readPast_8 : decode cX9_readPast 8 = .ok (.iconst 4, 1) := by decide +kernel
theorem dX9_readPast_9 : decode cX9_readPast 9 = .ok (.invokevirtual 274, 3) := by decide +kernel
theorem dX9_readPast_12 : decode cX9_readPast 12 = .ok (.aload_n 0, 1) := by decide +kernel
theorem dX9_readPast_13 : decode cX9_readPast 13 = .ok (.ldc_w 295, 3) := by decide +kernel
theorem dX9_readPast_16 : decode cX9_readPast 16 = .ok (.iconst 0, 1) := by decide +kernel
theorem dX9_readPast_17 : decode cX9_readPast 17 = .ok (.sipush 300, 3) := by decide +kernel
theorem dX9_readPast_20 : decode cX9_readPast 20 = .ok (.invokevirtual 257, 3) := by decide +kernel
theorem dX9_readPast_23 : decode cX9_readPast 23 = .ok (.istore_n 1, 1) := by decide +kernel
theorem dX9_readPast_24 : decode cX9_readPast 24 = .ok (.aload_n 0, 1) := by decide +kernel
theorem dX9_readPast_25 : decode cX9_readPast 25 = .ok (.ldc_w 400, 3) := by decide +kernel
theorem dX9_readPast_28 : decode cX9_readPast 28 = .ok (.iconst 1, 1) := by decide +kernel
theorem dX9_readPast_29 : decode cX9_readPast 29 = .ok (.bipush 40, 2) := by decide +kernel
theorem dX9_readPast_31 : decode cX9_readPast 31 = .ok (.invokevirtual 257, 3) := by decide +kernel
theorem dX9_readPast_34 : decode cX9_readPast 34 = .ok (.istore_n 2, 1) := by decide +kernel
theorem dX9_readPast_35 : decode cX9_readPast 35 = .ok (.aload_n 0, 1) := by decide +kernel
theorem dX9_readPast_36 : decode cX9_readPast 36 = .ok (.ldc_w 342, 3) := by decide +kernel
theorem dX9_readPast_39 : decode cX9_readPast 39 = .ok (.iconst 1, 1) := by decide +kernel
theorem dX9_readPast_40 : decode cX9_readPast 40 = .ok (.bipush 40, 2) := by decide +kernel
theorem dX9_readPast_42 : decode cX9_readPast 42 = .ok (.invokevirtual 257, 3) := by decide +kernel
theorem dX9_readPast_45 : decode cX9_readPast 45 = .ok (.istore_n 3, 1) := by decide +kernel
theorem dX9_readPast_46 : decode cX9_readPast 46 = .ok (.aload_n 0, 1) := by decide +kernel
theorem dX9_readPast_47 : decode cX9_readPast 47 = .ok (.getfield 80, 3) := by decide +kernel
theorem dX9_readPast_50 : decode cX9_readPast 50 = .ok (.iconst 5, 1) := by decide +kernel
theorem dX9_readPast_51 : decode cX9_readPast 51 = .ok (.if_icmp .ne 4, 3) := by decide +kernel
theorem dX9_readPast_54 : decode cX9_readPast 54 = .ok (.return_, 1) := by decide +kernel
theorem dX9_readPast_55 : decode cX9_readPast 55 = .ok (.aload_n 0, 1) := by decide +kernel
theorem dX9_readPast_56 : decode cX9_readPast 56 = .ok (.getfield 174, 3) := by decide +kernel
theorem dX9_readPast_59 : decode cX9_readPast 59 = .ok (.getfield 402, 3) := by decide +kernel
theorem dX9_readPast_62 : decode cX9_readPast 62 = .ok (.aload_n 0, 1) := by decide +kernel
theorem dX9_readPast_63 : decode cX9_readPast 63 = .ok (.getfield 174, 3) := by decide +kernel
theorem dX9_readPast_66 : decode cX9_readPast 66 = .ok (.getfield 397, 3) := by decide +kernel
theorem dX9_readPast_69 : decode cX9_readPast 69 = .ok (.iload_n 1, 1) := by decide +kernel
theorem dX9_readPast_70 : decode cX9_readPast 70 = .ok (.iastore, 1) := by decide +kernel
theorem dX9_readPast_71 : decode cX9_readPast 71 = .ok (.aload_n 0, 1) := by decide +kernel
theorem dX9_readPast_72 : decode cX9_readPast 72 = .ok (.getfield 174, 3) := by decide +kernel
theorem dX9_readPast_75 : decode cX9_readPast 75 = .ok (.getfield 405, 3) := by decide +kernel
theorem dX9_readPast_78 : decode cX9_readPast 78 = .ok (.aload_n 0, 1) := by decide +kernel
theorem dX9_readPast_79 : decode cX9_readPast 79 = .ok (.getfield 174, 3) := by decide +kernel
theorem dX9_readPast_82 : decode cX9_readPast 82 = .ok (.getfield 397, 3) := by decide +kernel
theorem dX9_readPast_85 : decode cX9_readPast 85 = .ok (.iload_n 2, 1) := by decide +kernel
theorem dX9_readPast_86 : decode cX9_readPast 86 = .ok (.iload_n 3, 1) := by decide +kernel
theorem dX9_readPast_87 : decode cX9_readPast 87 = .ok (.if_icmp .ge 7, 3) := by decide +kernel
theorem dX9_readPast_90 : decode cX9_readPast 90 = .ok (.iload_n 2, 1) := by decide +kernel
theorem dX9_readPast_91 : decode cX9_readPast 91 = .ok (.goto 4, 3) := by decide +kernel
theorem dX9_readPast_94 : decode cX9_readPast 94 = .ok (.iload_n 3, 1) := by decide +kernel
theorem dX9_readPast_95 : decode cX9_readPast 95 = .ok (.iastore, 1) := by decide +kernel
theorem dX9_readPast_96 : decode cX9_readPast 96 = .ok (.aload_n 0, 1) := by decide +kernel
theorem dX9_readPast_97 : decode cX9_readPast 97 = .ok (.getfield 174, 3) := by decide +kernel
theorem dX9_readPast_100 : decode cX9_readPast 100 = .ok (.getfield 408, 3) := by decide +kernel
theorem dX9_readPast_103 : decode cX9_readPast 103 = .ok (.aload_n 0, 1) := by decide +kernel
theorem dX9_readPast_104 : decode cX9_readPast 104 = .ok (.getfield 174, 3) := by decide +kernel
theorem dX9_readPast_107 : decode cX9_readPast 107 = .ok (.getfield 397, 3) := by decide +kernel
theorem dX9_readPast_110 : decode cX9_readPast 110 = .ok (.iload_n 2, 1) := by decide +kernel
theorem dX9_readPast_111 : decode cX9_readPast 111 = .ok (.iload_n 3, 1) := by decide +kernel
theorem dX9_readPast_112 : decode cX9_readPast 112 = .ok (.if_icmp .ge 7, 3) := by decide +kernel
theorem dX9_readPast_115 : decode cX9_readPast 115 = .ok (.iload_n 3, 1) := by decide +kernel
theorem dX9_readPast_116 : decode cX9_readPast 116 = .ok (.goto 4, 3) := by decide +kernel
theorem dX9_readPast_119 : decode cX9_readPast 119 = .ok (.iload_n 2, 1) := by decide +kernel
theorem dX9_readPast_120 : decode cX9_readPast 120 = .ok (.iastore, 1) := by decide +kernel
theorem dX9_readPast_121 : decode cX9_readPast 121 = .ok (.aload_n 0, 1) := by decide +kernel
theorem dX9_readPast_122 : decode cX9_readPast 122 = .ok (.getfield 174, 3) := by decide +kernel
theorem dX9_readPast_125 : decode cX9_readPast 125 = .ok (.dup, 1) := by decide +kernel
theorem dX9_readPast_126 : decode cX9_readPast 126 = .ok (.getfield 397, 3) := by decide +kernel
theorem dX9_readPast_129 : decode cX9_readPast 129 = .ok (.iconst 1, 1) := by decide +kernel
theorem dX9_readPast_130 : decode cX9_readPast 130 = .ok (.iadd, 1) := by decide +kernel
theorem dX9_readPast_131 : decode cX9_readPast 131 = .ok (.putfield 397, 3) := by decide +kernel
theorem dX9_readPast_134 : decode cX9_readPast 134 = .ok (.return_, 1) := by decide +kernel
theorem dX9_readDrink_0 : decode cX9_readDrink 0 = .ok (.aload_n 0, 1) := by decide +kernel
theorem dX9_readDrink_1 : decode cX9_readDrink 1 = .ok (.aload_n 0, 1) := by decide +kernel
theorem dX9_readDrink_2 : decode cX9_readDrink 2 = .ok (.getfield 174, 3) := by decide +kernel
theorem dX9_readDrink_5 : decode cX9_readDrink 5 = .ok (.getfield 411, 3) := by decide +kernel
theorem dX9_readDrink_8 : decode cX9_readDrink 8 = .ok (.iconst 4, 1) := by decide +kernel
theorem dX9_readDrink_9 : decode cX9_readDrink 9 = .ok (.invokevirtual 274, 3) := by decide +kernel
theorem dX9_readDrink_12 : decode cX9_readDrink 12 = .ok (.aload_n 0, 1) := by decide +kernel
theorem dX9_readDrink_13 : decode cX9_readDrink 13 = .ok (.iconst 2, 1) := by decide +kernel
theorem dX9_readDrink_14 : decode cX9_readDrink 14 = .ok (.aload_n 0, 1) := by decide +kernel
theorem dX9_readDrink_15 : decode cX9_readDrink 15 = .ok (.getfield 174, 3) := by decide +kernel
theorem dX9_readDrink_18 : decode cX9_readDrink 18 = .ok (.getfield 411, 3) := by decide +kernel
theorem dX9_readDrink_21 : decode cX9_readDrink 21 = .ok (.invokevirtual 278, 3) := by decide +kernel
theorem dX9_readDrink_24 : decode cX9_readDrink 24 = .ok (.aload_n 0, 1) := by decide +kernel
theorem dX9_readDrink_25 : decode cX9_readDrink 25 = .ok (.ldc_w 414, 3) := by decide +kernel
theorem dX9_readDrink_28 : decode cX9_readDrink 28 = .ok (.iconst 1, 1) := by decide +kernel
theorem dX9_readDrink_29 : decode cX9_readDrink 29 = .ok (.bipush 99, 2) := by decide +kernel
theorem dX9_readDrink_31 : decode cX9_readDrink 31 = .ok (.invokevirtual 257, 3) := by decide +kernel
theorem dX9_readDrink_34 : decode cX9_readDrink 34 = .ok (.istore_n 1, 1) := by decide +kernel
theorem dX9_readDrink_35 : decode cX9_readDrink 35 = .ok (.aload_n 0, 1) := by decide +kernel
theorem dX9_readDrink_36 : decode cX9_readDrink 36 = .ok (.getfield 80, 3) := by decide +kernel
theorem dX9_readDrink_39 : decode cX9_readDrink 39 = .ok (.iconst 5, 1) := by decide +kernel
theorem dX9_readDrink_40 : decode cX9_readDrink 40 = .ok (.if_icmp .ne 4, 3) := by decide +kernel
theorem dX9_readDrink_43 : decode cX9_readDrink 43 = .ok (.return_, 1) := by decide +kernel
theorem dX9_readDrink_44 : decode cX9_readDrink 44 = .ok (.aload_n 0, 1) := by decide +kernel
theorem dX9_readDrink_45 : decode cX9_readDrink 45 = .ok (.getfield 174, 3) := by decide +kernel
theorem dX9_readDrink_48 : decode cX9_readDrink 48 = .ok (.getfield 416, 3) := by decide +kernel
theorem dX9_readDrink_51 : decode cX9_readDrink 51 = .ok (.aload_n 0, 1) := by decide +kernel
theorem dX9_readDrink_52 : decode cX9_readDrink 52 = .ok (.getfield 174, 3) := by decide +kernel
theorem dX9_readDrink_55 : decode cX9_readDrink 55 = .ok (.getfield 411, 3) := by decide +kernel
theorem dX9_readDrink_58 : decode cX9_readDrink 58 = .ok (.iload_n 1, 1) := by decide +kernel
theorem dX9_readDrink_59 : decode cX9_readDrink 59 = .ok (.iastore, 1) := by decide +kernel
theorem dX9_readDrink_60 : decode cX9_readDrink 60 = .ok (.aload_n 0, 1) := by decide +kernel
theorem dX9_readDrink_61 : decode cX9_readDrink 61 = .ok (.getfield 174, 3) := by decide +kernel
theorem dX9_readDrink_64 : decode cX9_readDrink 64 = .ok (.dup, 1) := by decide +kernel
theorem dX9_readDrink_65 : decode cX9_readDrink 65 = .ok (.getfield 411, 3) := by decide +kernel
theorem dX9_readDrink_68 : decode cX9_readDrink 68 = .ok (.iconst 1, 1) := by decide +kernel
theorem dX9_readDrink_69 : decode cX9_readDrink 69 = .ok (.iadd, 1) := by decide +kernel
theorem dX9_readDrink_70 : decode cX9_readDrink 70 = .ok (.putfield 411, 3) := by decide +kernel
theorem dX9_readDrink_73 : decode cX9_readDrink 73 = .ok (.return_, 1) := by decide +kernel
theorem dX9_feed_0 : decode cX9_feed 0 = .ok (.aload_n 0, 1) := by decide +kernel
theorem dX9_feed_1 : decode cX9_feed 1 = .ok (.iconst 0, 1) := by decide +kernel
theorem dX9_feed_2 : decode cX9_feed 2 = .ok (.putfield 52, 3) := by decide +kernel
theorem dX9_feed_5 : decode cX9_feed 5 = .ok (.aload_n 0, 1) := by decide +kernel
theorem dX9_feed_6 : decode cX9_feed 6 = .ok (.getfield 418, 3) := by decide +kernel
theorem dX9_feed_9 : decode cX9_feed 9 = .ok (.bipush 20, 2) := by decide +kernel
theorem dX9_feed_11 : decode cX9_feed 11 = .ok (.iadd, 1) := by decide +kernel
theorem dX9_feed_12 : decode cX9_feed 12 = .ok (.sipush 900, 3) := by decide +kernel
theorem dX9_feed_15 : decode cX9_feed 15 = .ok (.if_icmp .le 5, 3) := by decide +kernel
theorem dX9_feed_18 : decode cX9_feed 18 = .ok (.iconst (-1), 1) := by decide +kernel
theorem dX9_feed_19 : decode cX9_feed 19 = .ok (.ireturn, 1) := by decide +kernel
theorem dX9_feed_20 : decode cX9_feed 20 = .ok (.iconst 0, 1) := by decide +kernel
theorem dX9_feed_21 : decode cX9_feed 21 = .ok (.istore 6, 2) := by decide +kernel
theorem dX9_feed_23 : decode cX9_feed 23 = .ok (.iload 6, 2) := by decide +kernel
theorem dX9_feed_25 : decode cX9_feed 25 = .ok (.bipush 20, 2) := by decide +kernel
theorem dX9_feed_27 : decode cX9_feed 27 = .ok (.if_icmp .ge 90, 3) := by decide +kernel
theorem dX9_feed_30 : decode cX9_feed 30 = .ok (.iload 6, 2) := by decide +kernel
theorem dX9_feed_32 : decode cX9_feed 32 = .ok (.iconst 4, 1) := by decide +kernel
theorem dX9_feed_33 : decode cX9_feed 33 = .ok (.if_icmp .ge 7, 3) := by decide +kernel
theorem dX9_feed_36 : decode cX9_feed 36 = .ok (.iload_n 1, 1) := by decide +kernel
theorem dX9_feed_37 : decode cX9_feed 37 = .ok (.goto 39, 3) := by decide +kernel
theorem dX9_feed_40 : decode cX9_feed 40 = .ok (.iload 6, 2) := by decide +kernel
theorem dX9_feed_42 : decode cX9_feed 42 = .ok (.bipush 8, 2) := by decide +kernel
theorem dX9_feed_44 : decode cX9_feed 44 = .ok (.if_icmp .ge 7, 3) := by decide +kernel
theorem dX9_feed_47 : decode cX9_feed 47 = .ok (.iload_n 2, 1) := by decide +kernel
theorem dX9_feed_48 : decode cX9_feed 48 = .ok (.goto 28, 3) := by decide +kernel
theorem dX9_feed_51 : decode cX9_feed 51 = .ok (.iload 6, 2) := by decide +kernel
theorem dX9_feed_53 : decode cX9_feed 53 = .ok (.bipush 12, 2) := by decide +kernel
theorem dX9_feed_55 : decode cX9_feed 55 = .ok (.if_icmp .ge 7, 3) := by decide +kernel
theorem dX9_feed_58 : decode cX9_feed 58 = .ok (.iload_n 3, 1) := by decide +kernel
theorem dX9_feed_59 : decode cX9_feed 59 = .ok (.goto 17, 3) := by decide +kernel
theorem dX9_feed_62 : decode cX9_feed 62 = .ok (.iload 6, 2) := by decide +kernel
theorem dX9_feed_64 : decode cX9_feed 64 = .ok (.bipush 16, 2) := by decide +kernel
theorem dX9_feed_66 : decode cX9_feed 66 = .ok (.if_icmp .ge 8, 3) := by decide +kernel
theorem dX9_feed_69 : decode cX9_feed 69 = .ok (.iload 4, 2) := by decide +kernel
theorem dX9_feed_71 : decode cX9_feed 71 = .ok (.goto 5, 3) := by decide +kernel
theorem dX9_feed_74 : decode cX9_feed 74 = .ok (.iload 5, 2) := by decide +kernel
theorem dX9_feed_76 : decode cX9_feed 76 = .ok (.istore 7, 2) := by decide +kernel
theorem dX9_feed_78 : decode cX9_feed 78 = .ok (.aload_n 0, 1) := by decide +kernel
theorem dX9_feed_79 : decode cX9_feed 79 = .ok (.getfield 13, 3) := by decide +kernel
theorem dX9_feed_82 : decode cX9_feed 82 = .ok (.aload_n 0, 1) := by decide +kernel
theorem dX9_feed_83 : decode cX9_feed 83 = .ok (.getfield 418, 3) := by decide +kernel
theorem dX9_feed_86 : decode cX9_feed 86 = .ok (.iload 7, 2) := by decide +kernel
theorem dX9_feed_88 : decode cX9_feed 88 = .ok (.bipush 24, 2) := by decide +kernel
theorem dX9_feed_90 : decode cX9_feed 90 = .ok (.bipush 8, 2) := by decide +kernel
theorem dX9_feed_92 : decode cX9_feed 92 = .ok (.iload 6, 2) := by decide +kernel
theorem dX9_feed_94 : decode cX9_feed 94 = .ok (.iconst 4, 1) := by decide +kernel
theorem dX9_feed_95 : decode cX9_feed 95 = .ok (.irem, 1) := by decide +kernel
theorem dX9_feed_96 : decode cX9_feed 96 = .ok (.imul, 1) := by decide +kernel
theorem dX9_feed_97 : decode cX9_feed 97 = .ok (.isub, 1) := by decide +kernel
theorem dX9_feed_98 : decode cX9_feed 98 = .ok (.ishr, 1) := by decide +kernel
theorem dX9_feed_99 : decode cX9_feed 99 = .ok (.i2b, 1) := by decide +kernel
theorem dX9_feed_100 : decode cX9_feed 100 = .ok (.bastore, 1) := by decide +kernel
theorem dX9_feed_101 : decode cX9_feed 101 = .ok (.aload_n 0, 1) := by decide +kernel
theorem dX9_feed_102 : decode cX9_feed 102 = .ok (.dup, 1) := by decide +kernel
theorem dX9_feed_103 : decode cX9_feed 103 = .ok (.getfield 418, 3) := by decide +kernel
theorem dX9_feed_106 : decode cX9_feed 106 = .ok (.iconst 1, 1) := by decide +kernel
theorem dX9_feed_107 : decode cX9_feed 107 = .ok (.iadd, 1) := by decide +kernel
theorem dX9_feed_108 : decode cX9_feed 108 = .ok (.putfield 418, 3) := by decide +kernel
theorem dX9_feed_111 : decode cX9_feed 111 = .ok (.iinc 6 1, 3) := by decide +kernel
theorem dX9_feed_114 : decode cX9_feed 114 = .ok (.goto (-91), 3) := by decide +kernel
theorem dX9_feed_117 : decode cX9_feed 117 = .ok (.aload_n 0, 1) := by decide +kernel
theorem dX9_feed_118 : decode cX9_feed 118 = .ok (.getfield 418, 3) := by decide +kernel
theorem dX9_feed_121 : decode cX9_feed 121 = .ok (.ireturn, 1) := by decide +kernel
theorem dX9_flight_0 : decode cX9_flight 0 = .ok (.aload_n 0, 1) := by decide +kernel
theorem dX9_flight_1 : decode cX9_flight 1 = .ok (.iconst 0, 1) := by decide +kernel
theorem dX9_flight_2 : decode cX9_flight 2 = .ok (.putfield 52, 3) := by decide +kernel
theorem dX9_flight_5 : decode cX9_flight 5 = .ok (.iload_n 1, 1) := by decide +kernel
theorem dX9_flight_6 : decode cX9_flight 6 = .ok (.ifCond .lt 11, 3) := by decide +kernel
theorem dX9_flight_9 : decode cX9_flight 9 = .ok (.iload_n 1, 1) := by decide +kernel
theorem dX9_flight_10 : decode cX9_flight 10 = .ok (.aload_n 0, 1) := by decide +kernel
theorem dX9_flight_11 : decode cX9_flight 11 = .ok (.getfield 418, 3) := by decide +kernel
theorem dX9_flight_14 : decode cX9_flight 14 = .ok (.if_icmp .le 9, 3) := by decide +kernel
theorem dX9_flight_17 : decode cX9_flight 17 = .ok (.aload_n 0, 1) := by decide +kernel
theorem dX9_flight_18 : decode cX9_flight 18 = .ok (.iconst 2, 1) := by decide +kernel
theorem dX9_flight_19 : decode cX9_flight 19 = .ok (.invokevirtual 58, 3) := by decide +kernel
theorem dX9_flight_22 : decode cX9_flight 22 = .ok (.ireturn, 1) := by decide +kernel
theorem dX9_flight_23 : decode cX9_flight 23 = .ok (.aload_n 0, 1) := by decide +kernel
theorem dX9_flight_24 : decode cX9_flight 24 = .ok (.iload_n 1, 1) := by decide +kernel
theorem dX9_flight_25 : decode cX9_flight 25 = .ok (.putfield 65, 3) := by decide +kernel
theorem dX9_flight_28 : decode cX9_flight 28 = .ok (.aload_n 0, 1) := by decide +kernel
theorem dX9_flight_29 : decode cX9_flight 29 = .ok (.iconst 0, 1) := by decide +kernel
theorem dX9_flight_30 : decode cX9_flight 30 = .ok (.putfield 418, 3) := by decide +kernel
theorem dX9_flight_33 : decode cX9_flight 33 = .ok (.aload_n 0, 1) := by decide +kernel
theorem dX9_flight_34 : decode cX9_flight 34 = .ok (.iconst 0, 1) := by decide +kernel
theorem dX9_flight_35 : decode cX9_flight 35 = .ok (.putfield 83, 3) := by decide +kernel
theorem dX9_flight_38 : decode cX9_flight 38 = .ok (.aload_n 0, 1) := by decide +kernel
theorem dX9_flight_39 : decode cX9_flight 39 = .ok (.iconst 0, 1) := by decide +kernel
theorem dX9_flight_40 : decode cX9_flight 40 = .ok (.putfield 109, 3) := by decide +kernel
theorem dX9_flight_43 : decode cX9_flight 43 = .ok (.aload_n 0, 1) := by decide +kernel
theorem dX9_flight_44 : decode cX9_flight 44 = .ok (.new 179, 3) := by decide +kernel
theorem dX9_flight_47 : decode cX9_flight 47 = .ok (.dup, 1) := by decide +kernel
theorem dX9_flight_48 : decode cX9_flight 48 = .ok (.invokespecial 421, 3) := by decide +kernel
theorem dX9_flight_51 : decode cX9_flight 51 = .ok (.putfield 174, 3) := by decide +kernel
theorem dX9_flight_54 : decode cX9_flight 54 = .ok (.aload_n 0, 1) := by decide +kernel
theorem dX9_flight_55 : decode cX9_flight 55 = .ok (.iconst 0, 1) := by decide +kernel
theorem dX9_flight_56 : decode cX9_flight 56 = .ok (.putfield 80, 3) := by decide +kernel
theorem dX9_flight_59 : decode cX9_flight 59 = .ok (.aload_n 0, 1) := by decide +kernel
theorem dX9_flight_60 : decode cX9_flight 60 = .ok (.invokevirtual 123, 3) := by decide +kernel
theorem dX9_flight_63 : decode cX9_flight 63 = .ok (.aload_n 0, 1) := by decide +kernel
theorem dX9_flight_64 : decode cX9_flight 64 = .ok (.invokevirtual 422, 3) := by decide +kernel
theorem dX9_flight_67 : decode cX9_flight 67 = .ok (.aload_n 0, 1) := by decide +kernel
theorem dX9_flight_68 : decode cX9_flight 68 = .ok (.getfield 109, 3) := by decide +kernel
theorem dX9_flight_71 : decode cX9_flight 71 = .ok (.ifCond .le 18, 3) := by decide +kernel
theorem dX9_flight_74 : decode cX9_flight 74 = .ok (.aload_n 0, 1) := by decide +kernel
theorem dX9_flight_75 : decode cX9_flight 75 = .ok (.iconst 4, 1) := by decide +kernel
theorem dX9_flight_76 : decode cX9_flight 76 = .ok (.putfield 55, 3) := by decide +kernel
theorem dX9_flight_79 : decode cX9_flight 79 = .ok (.aload_n 0, 1) := by decide +kernel
theorem dX9_flight_80 : decode cX9_flight 80 = .ok (.aload_n 0, 1) := by decide +kernel
theorem dX9_flight_81 : decode cX9_flight 81 = .ok (.getfield 112, 3) := by decide +kernel
theorem dX9_flight_84 : decode cX9_flight 84 = .ok (.putfield 9, 3) := by decide +kernel
theorem dX9_flight_87 : decode cX9_flight 87 = .ok (.iconst (-1), 1) := by decide +kernel
theorem dX9_flight_88 : decode cX9_flight 88 = .ok (.ireturn, 1) := by decide +kernel
theorem dX9_flight_89 : decode cX9_flight 89 = .ok (.aload_n 0, 1) := by decide +kernel
theorem dX9_flight_90 : decode cX9_flight 90 = .ok (.aload_n 0, 1) := by decide +kernel
theorem dX9_flight_91 : decode cX9_flight 91 = .ok (.getfield 174, 3) := by decide +kernel
theorem dX9_flight_94 : decode cX9_flight 94 = .ok (.putfield 425, 3) := by decide +kernel
theorem dX9_flight_97 : decode cX9_flight 97 = .ok (.aload_n 0, 1) := by decide +kernel
theorem dX9_flight_98 : decode cX9_flight 98 = .ok (.iconst 0, 1) := by decide +kernel
theorem dX9_flight_99 : decode cX9_flight 99 = .ok (.putfield 428, 3) := by decide +kernel
theorem dX9_flight_102 : decode cX9_flight 102 = .ok (.aload_n 0, 1) := by decide +kernel
theorem dX9_flight_103 : decode cX9_flight 103 = .ok (.iconst 0, 1) := by decide +kernel
theorem dX9_flight_104 : decode cX9_flight 104 = .ok (.invokevirtual 431, 3) := by decide +kernel
theorem dX9_flight_107 : decode cX9_flight 107 = .ok (.aload_n 0, 1) := by decide +kernel
theorem dX9_flight_108 : decode cX9_flight 108 = .ok (.aload_n 0, 1) := by decide +kernel
theorem dX9_flight_109 : decode cX9_flight 109 = .ok (.getfield 425, 3) := by decide +kernel
theorem dX9_flight_112 : decode cX9_flight 112 = .ok (.getfield 214, 3) := by decide +kernel
theorem dX9_flight_115 : decode cX9_flight 115 = .ok (.invokevirtual 62, 3) := by decide +kernel
theorem dX9_flight_118 : decode cX9_flight 118 = .ok (.ireturn, 1) := by decide +kernel
theorem dX9_fault_0 : decode cX9_fault 0 = .ok (.aload_n 0, 1) := by decide +kernel
theorem dX9_fault_1 : decode cX9_fault 1 = .ok (.iconst 0, 1) := by decide +kernel
theorem dX9_fault_2 : decode cX9_fault 2 = .ok (.putfield 52, 3) := by decide +kernel
theorem dX9_fault_5 : decode cX9_fault 5 = .ok (.aload_n 0, 1) := by decide +kernel
theorem dX9_fault_6 : decode cX9_fault 6 = .ok (.getfield 109, 3) := by decide +kernel
theorem dX9_fault_9 : decode cX9_fault 9 = .ok (.ireturn, 1) := by decide +kernel
theorem dX9_where_0 : decode cX9_where 0 = .ok (.aload_n 0, 1) := by decide +kernel
theorem dX9_where_1 : decode cX9_where 1 = .ok (.iconst 0, 1) := by decide +kernel
theorem dX9_where_2 : decode cX9_where 2 = .ok (.putfield 52, 3) := by decide +kernel
theorem dX9_where_5 : decode cX9_where 5 = .ok (.aload_n 0, 1) := by decide +kernel
theorem dX9_where_6 : decode cX9_where 6 = .ok (.getfield 9, 3) := by decide +kernel
theorem dX9_where_9 : decode cX9_where 9 = .ok (.ireturn, 1) := by decide +kernel
theorem dX9_isRow_0 : decode cX9_isRow 0 = .ok (.aload_n 0, 1) := by decide +kernel
theorem dX9_isRow_1 : decode cX9_isRow 1 = .ok (.getfield 425, 3) := by decide +kernel
theorem dX9_isRow_4 : decode cX9_isRow 4 = .ok (.ifnull 23, 3) := by decide +kernel
theorem dX9_isRow_7 : decode cX9_isRow 7 = .ok (.iload_n 1, 1) := by decide +kernel
theorem dX9_isRow_8 : decode cX9_isRow 8 = .ok (.iconst 1, 1) := by decide +kernel
theorem dX9_isRow_9 : decode cX9_isRow 9 = .ok (.if_icmp .lt 18, 3) := by decide +kernel
theorem dX9_isRow_12 : decode cX9_isRow 12 = .ok (.iload_n 1, 1) := by decide +kernel
theorem dX9_isRow_13 : decode cX9_isRow 13 = .ok (.aload_n 0, 1) := by decide +kernel
theorem dX9_isRow_14 : decode cX9_isRow 14 = .ok (.getfield 425, 3) := by decide +kernel
theorem dX9_isRow_17 : decode cX9_isRow 17 = .ok (.getfield 205, 3) := by decide +kernel
theorem dX9_isRow_20 : decode cX9_isRow 20 = .ok (.if_icmp .gt 7, 3) := by decide +kernel
theorem dX9_isRow_23 : decode cX9_isRow 23 = .ok (.iconst 1, 1) := by decide +kernel
theorem dX9_isRow_24 : decode cX9_isRow 24 = .ok (.goto 4, 3) := by decide +kernel
theorem dX9_isRow_27 : decode cX9_isRow 27 = .ok (.iconst 0, 1) := by decide +kernel
theorem dX9_isRow_28 : decode cX9_isRow 28 = .ok (.ireturn, 1) := by decide +kernel
theorem dX9_isKind_0 : decode cX9_isKind 0 = .ok (.aload_n 0, 1) := by decide +kernel
theorem dX9_isKind_1 : decode cX9_isKind 1 = .ok (.getfield 425, 3) := by decide +kernel
theorem dX9_isKind_4 : decode cX9_isKind 4 = .ok (.ifnull 22, 3) := by decide +kernel
theorem dX9_isKind_7 : decode cX9_isKind 7 = .ok (.iload_n 1, 1) := by decide +kernel
theorem dX9_isKind_8 : decode cX9_isKind 8 = .ok (.ifCond .lt 18, 3) := by decide +kernel
theorem dX9_isKind_11 : decode cX9_isKind 11 = .ok (.iload_n 1, 1) := by decide +kernel
theorem dX9_isKind_12 : decode cX9_isKind 12 = .ok (.aload_n 0, 1) := by decide +kernel
theorem dX9_isKind_13 : decode cX9_isKind 13 = .ok (.getfield 425, 3) := by decide +kernel
theorem dX9_isKind_16 : decode cX9_isKind 16 = .ok (.getfield 211, 3) := by decide +kernel
theorem dX9_isKind_19 : decode cX9_isKind 19 = .ok (.if_icmp .ge 7, 3) := by decide +kernel
theorem dX9_isKind_22 : decode cX9_isKind 22 = .ok (.iconst 1, 1) := by decide +kernel
theorem dX9_isKind_23 : decode cX9_isKind 23 = .ok (.goto 4, 3) := by decide +kernel
theorem dX9_isKind_26 : decode cX9_isKind 26 = .ok (.iconst 0, 1) := by decide +kernel
theorem dX9_isKind_27 : decode cX9_isKind 27 = .ok (.ireturn, 1) := by decide +kernel
theorem dX9_isTrolley_0 : decode cX9_isTrolley 0 = .ok (.aload_n 0, 1) := by decide +kernel
theorem dX9_isTrolley_1 : decode cX9_isTrolley 1 = .ok (.getfield 425, 3) := by decide +kernel
theorem dX9_isTrolley_4 : decode cX9_isTrolley 4 = .ok (.ifnull 22, 3) := by decide +kernel
theorem dX9_isTrolley_7 : decode cX9_isTrolley 7 = .ok (.iload_n 1, 1) := by decide +kernel
theorem dX9_isTrolley_8 : decode cX9_isTrolley 8 = .ok (.ifCond .lt 18, 3) := by decide +kernel
theorem dX9_isTrolley_11 : decode cX9_isTrolley 11 = .ok (.iload_n 1, 1) := by decide +kernel
theorem dX9_isTrolley_12 : decode cX9_isTrolley 12 = .ok (.aload_n 0, 1) := by decide +kernel
theorem dX9_isTrolley_13 : decode cX9_isTrolley 13 = .ok (.getfield 425, 3) := by decide +kernel
theorem dX9_isTrolley_16 : decode cX9_isTrolley 16 = .ok (.getfield 214, 3) := by decide +kernel
theorem dX9_isTrolley_19 : decode cX9_isTrolley 19 = .ok (.if_icmp .ge 7, 3) := by decide +kernel
theorem dX9_isTrolley_22 : decode cX9_isTrolley 22 = .ok (.iconst 1, 1) := by decide +kernel
theorem dX9_isTrolley_23 : decode cX9_isTrolley 23 = .ok (.goto 4, 3) := by decide +kernel
theorem dX9_isTrolley_26 : decode cX9_isTrolley 26 = .ok (.iconst 0, 1) := by decide +kernel
theorem dX9_isTrolley_27 : decode cX9_isTrolley 27 = .ok (.ireturn, 1) := by decide +kernel
theorem dX9_sits_0 : decode cX9_sits 0 = .ok (.aload_n 0, 1) := by decide +kernel
theorem dX9_sits_1 : decode cX9_sits 1 = .ok (.iconst 0, 1) := by decide +kernel
theorem dX9_sits_2 : decode cX9_sits 2 = .ok (.putfield 52, 3) := by decide +kernel
theorem dX9_sits_5 : decode cX9_sits 5 = .ok (.aload_n 0, 1) := by decide +kernel
theorem dX9_sits_6 : decode cX9_sits 6 = .ok (.iload_n 1, 1) := by decide +kernel
theorem dX9_sits_7 : decode cX9_sits 7 = .ok (.invokevirtual 434, 3) := by decide +kernel
theorem dX9_sits_10 : decode cX9_sits 10 = .ok (.ifCond .eq 18, 3) := by decide +kernel
theorem dX9_sits_13 : decode cX9_sits 13 = .ok (.aload_n 0, 1) := by decide +kernel
theorem dX9_sits_14 : decode cX9_sits 14 = .ok (.aload_n 0, 1) := by decide +kernel
theorem dX9_sits_15 : decode cX9_sits 15 = .ok (.getfield 425, 3) := by decide +kernel
theorem dX9_sits_18 : decode cX9_sits 18 = .ok (.iload_n 1, 1) := by decide +kernel
theorem dX9_sits_19 : decode cX9_sits 19 = .ok (.invokevirtual 437, 3) := by decide +kernel
theorem dX9_sits_22 : decode cX9_sits 22 = .ok (.invokevirtual 62, 3) := by decide +kernel
theorem dX9_sits_25 : decode cX9_sits 25 = .ok (.goto 8, 3) := by decide +kernel
theorem dX9_sits_28 : decode cX9_sits 28 = .ok (.aload_n 0, 1) := by decide +kernel
theorem dX9_sits_29 : decode cX9_sits 29 = .ok (.iconst 1, 1) := by decide +kernel
theorem dX9_sits_30 : decode cX9_sits 30 = .ok (.invokevirtual 58, 3) := by decide +kernel
theorem dX9_sits_33 : decode cX9_sits 33 = .ok (.ireturn, 1) := by decide +kernel
theorem dX9_sitsAll_0 : decode cX9_sitsAll 0 = .ok (.iconst 0, 1) := by decide +kernel
theorem dX9_sitsAll_1 : decode cX9_sitsAll 1 = .ok (.istore_n 1, 1) := by decide +kernel
theorem dX9_sitsAll_2 : decode cX9_sitsAll 2 = .ok (.iconst 1, 1) := by decide +kernel
theorem dX9_sitsAll_3 : decode cX9_sitsAll 3 = .ok (.istore_n 2, 1) := by decide +kernel
theorem dX9_sitsAll_4 : decode cX9_sitsAll 4 = .ok (.iload_n 2, 1) := by decide +kernel
theorem dX9_sitsAll_5 : decode cX9_sitsAll 5 = .ok (.aload_n 0, 1) := by decide +kernel
theorem dX9_sitsAll_6 : decode cX9_sitsAll 6 = .ok (.getfield 425, 3) := by decide +kernel
theorem dX9_sitsAll_9 : decode cX9_sitsAll 9 = .ok (.getfield 205, 3) := by decide +kernel
theorem dX9_sitsAll_12 : decode cX9_sitsAll 12 = .ok (.if_icmp .gt 20, 3) := by decide +kernel
theorem dX9_sitsAll_15 : decode cX9_sitsAll 15 = .ok (.iload_n 1, 1) := by decide +kernel
theorem dX9_sitsAll_16 : decode cX9_sitsAll 16 = .ok (.aload_n 0, 1) := by decide +kernel
theorem dX9_sitsAll_17 : decode cX9_sitsAll 17 = .ok (.getfield 425, 3) := by decide +kernel
theorem dX9_sitsAll_20 : decode cX9_sitsAll 20 = .ok (.iload_n 2, 1) := by decide +kernel
theorem dX9_sitsAll_21 : decode cX9_sitsAll 21 = .ok (.invokevirtual 437, 3) := by decide +kernel
theorem dX9_sitsAll_24 : decode cX9_sitsAll 24 = .ok (.iadd, 1) := by decide +kernel
theorem dX9_sitsAll_25 : decode cX9_sitsAll 25 = .ok (.istore_n 1, 1) := by decide +kernel
theorem dX9_sitsAll_26 : decode cX9_sitsAll 26 = .ok (.iinc 2 1, 3) := by decide +kernel
theorem dX9_sitsAll_29 : decode cX9_sitsAll 29 = .ok (.goto (-25), 3) := by decide +kernel
theorem dX9_sitsAll_32 : decode cX9_sitsAll 32 = .ok (.iload_n 1, 1) := by decide +kernel
theorem dX9_sitsAll_33 : decode cX9_sitsAll 33 = .ok (.ireturn, 1) := by decide +kernel
theorem dX9_all_0 : decode cX9_all 0 = .ok (.aload_n 0, 1) := by decide +kernel
theorem dX9_all_1 : decode cX9_all 1 = .ok (.iconst 0, 1) := by decide +kernel
theorem dX9_all_2 : decode cX9_all 2 = .ok (.putfield 52, 3) := by decide +kernel
theorem dX9_all_5 : decode cX9_all 5 = .ok (.aload_n 0, 1) := by decide +kernel
theorem dX9_all_6 : decode cX9_all 6 = .ok (.getfield 425, 3) := by decide +kernel
theorem dX9_all_9 : decode cX9_all 9 = .ok (.ifnonnull 11, 3) := by decide +kernel
theorem dX9_all_12 : decode cX9_all 12 = .ok (.aload_n 0, 1) := by decide +kernel
theorem dX9_all_13 : decode cX9_all 13 = .ok (.iconst 1, 1) := by decide +kernel
theorem dX9_all_14 : decode cX9_all 14 = .ok (.invokevirtual 58, 3) := by decide +kernel
theorem dX9_all_17 : decode cX9_all 17 = .ok (.goto 11, 3) := by decide +kernel
theorem dX9_all_20 : decode cX9_all 20 = .ok (.aload_n 0, 1) := by decide +kernel
theorem dX9_all_21 : decode cX9_all 21 = .ok (.aload_n 0, 1) := by decide +kernel
theorem dX9_all_22 : decode cX9_all 22 = .ok (.invokevirtual 440, 3) := by decide +kernel
theorem dX9_all_25 : decode cX9_all 25 = .ok (.invokevirtual 62, 3) := by decide +kernel
theorem dX9_all_28 : decode cX9_all 28 = .ok (.ireturn, 1) := by decide +kernel
theorem dX9_weightOf_0 : decode cX9_weightOf 0 = .ok (.aload_n 0, 1) := by decide +kernel
theorem dX9_weightOf_1 : decode cX9_weightOf 1 = .ok (.getfield 425, 3) := by decide +kernel
theorem dX9_weightOf_4 : decode cX9_weightOf 4 = .ok (.iload_n 1, 1) := by decide +kernel
theorem dX9_weightOf_5 : decode cX9_weightOf 5 = .ok (.invokevirtual 443, 3) := by decide +kernel
theorem dX9_weightOf_8 : decode cX9_weightOf 8 = .ok (.istore_n 3, 1) := by decide +kernel
theorem dX9_weightOf_9 : decode cX9_weightOf 9 = .ok (.iconst 0, 1) := by decide +kernel
theorem dX9_weightOf_10 : decode cX9_weightOf 10 = .ok (.istore 4, 2) := by decide +kernel
theorem dX9_weightOf_12 : decode cX9_weightOf 12 = .ok (.iload_n 3, 1) := by decide +kernel
theorem dX9_weightOf_13 : decode cX9_weightOf 13 = .ok (.iconst (-1), 1) := by decide +kernel
theorem dX9_weightOf_14 : decode cX9_weightOf 14 = .ok (.if_icmp .eq 56, 3) := by decide +kernel
theorem dX9_weightOf_17 : decode cX9_weightOf 17 = .ok (.iload 4, 2) := by decide +kernel
theorem dX9_weightOf_19 : decode cX9_weightOf 19 = .ok (.aload_n 0, 1) := by decide +kernel
theorem dX9_weightOf_20 : decode cX9_weightOf 20 = .ok (.getfield 425, 3) := by decide +kernel
theorem dX9_weightOf_23 : decode cX9_weightOf 23 = .ok (.getfield 362, 3) := by decide +kernel
theorem dX9_weightOf_26 : decode cX9_weightOf 26 = .ok (.iload_n 3, 1) := by decide +kernel
theorem dX9_weightOf_27 : decode cX9_weightOf 27 = .ok (.iaload, 1) := by decide +kernel
theorem dX9_weightOf_28 : decode cX9_weightOf 28 = .ok (.if_icmp .ge 42, 3) := by decide +kernel
theorem dX9_weightOf_31 : decode cX9_weightOf 31 = .ok (.aload_n 0, 1) := by decide +kernel
theorem dX9_weightOf_32 : decode cX9_weightOf 32 = .ok (.getfield 425, 3) := by decide +kernel
theorem dX9_weightOf_35 : decode cX9_weightOf 35 = .ok (.getfield 348, 3) := by decide +kernel
theorem dX9_weightOf_38 : decode cX9_weightOf 38 = .ok (.iconst 4, 1) := by decide +kernel
theorem dX9_weightOf_39 : decode cX9_weightOf 39 = .ok (.iload_n 3, 1) := by decide +kernel
theorem dX9_weightOf_40 : decode cX9_weightOf 40 = .ok (.imul, 1) := by decide +kernel
theorem dX9_weightOf_41 : decode cX9_weightOf 41 = .ok (.iload 4, 2) := by decide +kernel
theorem dX9_weightOf_43 : decode cX9_weightOf 43 = .ok (.iadd, 1) := by decide +kernel
theorem dX9_weightOf_44 : decode cX9_weightOf 44 = .ok (.iaload, 1) := by decide +kernel
theorem dX9_weightOf_45 : decode cX9_weightOf 45 = .ok (.iload_n 2, 1) := by decide +kernel
theorem dX9_weightOf_46 : decode cX9_weightOf 46 = .ok (.if_icmp .ne 18, 3) := by decide +kernel
theorem dX9_weightOf_49 : decode cX9_weightOf 49 = .ok (.aload_n 0, 1) := by decide +kernel
theorem dX9_weightOf_50 : decode cX9_weightOf 50 = .ok (.getfield 425, 3) := by decide +kernel
theorem dX9_weightOf_53 : decode cX9_weightOf 53 = .ok (.getfield 351, 3) := by decide +kernel
theorem dX9_weightOf_56 : decode cX9_weightOf 56 = .ok (.iconst 4, 1) := by decide +kernel
theorem dX9_weightOf_57 : decode cX9_weightOf 57 = .ok (.iload_n 3, 1) := by decide +kernel
theorem dX9_weightOf_58 : decode cX9_weightOf 58 = .ok (.imul, 1) := by decide +kernel
theorem dX9_weightOf_59 : decode cX9_weightOf 59 = .ok (.iload 4, 2) := by decide +kernel
theorem dX9_weightOf_61 : decode cX9_weightOf 61 = .ok (.iadd, 1) := by decide +kernel
theorem dX9_weightOf_62 : decode cX9_weightOf 62 = .ok (.iaload, 1) := by decide +kernel
theorem dX9_weightOf_63 : decode cX9_weightOf 63 = .ok (.ireturn, 1) := by decide +kernel
theorem dX9_weightOf_64 : decode cX9_weightOf 64 = .ok (.iinc 4 1, 3) := by decide +kernel
theorem dX9_weightOf_67 : decode cX9_weightOf 67 = .ok (.goto (-55), 3) := by decide +kernel
theorem dX9_weightOf_70 : decode cX9_weightOf 70 = .ok (.iconst 0, 1) := by decide +kernel
theorem dX9_weightOf_71 : decode cX9_weightOf 71 = .ok (.ireturn, 1) := by decide +kernel
theorem dX9_likes_0 : decode cX9_likes 0 = .ok (.aload_n 0, 1) := by decide +kernel
theorem dX9_likes_1 : decode cX9_likes 1 = .ok (.iconst 0, 1) := by decide +kernel
theorem dX9_likes_2 : decode cX9_likes 2 = .ok (.putfield 52, 3) := by decide +kernel
theorem dX9_likes_5 : decode cX9_likes 5 = .ok (.aload_n 0, 1) := by decide +kernel
theorem dX9_likes_6 : decode cX9_likes 6 = .ok (.iload_n 1, 1) := by decide +kernel
theorem dX9_likes_7 : decode cX9_likes 7 = .ok (.invokevirtual 434, 3) := by decide +kernel
theorem dX9_likes_10 : decode cX9_likes 10 = .ok (.ifCond .eq 24, 3) := by decide +kernel
theorem dX9_likes_13 : decode cX9_likes 13 = .ok (.aload_n 0, 1) := by decide +kernel
theorem dX9_likes_14 : decode cX9_likes 14 = .ok (.iload_n 2, 1) := by decide +kernel
theorem dX9_likes_15 : decode cX9_likes 15 = .ok (.invokevirtual 446, 3) := by decide +kernel
theorem dX9_likes_18 : decode cX9_likes 18 = .ok (.ifCond .eq 16, 3) := by decide +kernel
theorem dX9_likes_21 : decode cX9_likes 21 = .ok (.aload_n 0, 1) := by decide +kernel
theorem dX9_likes_22 : decode cX9_likes 22 = .ok (.aload_n 0, 1) := by decide +kernel
theorem dX9_likes_23 : decode cX9_likes 23 = .ok (.iload_n 1, 1) := by decide +kernel
theorem dX9_likes_24 : decode cX9_likes 24 = .ok (.iload_n 2, 1) := by decide +kernel
theorem dX9_likes_25 : decode cX9_likes 25 = .ok (.invokevirtual 449, 3) := by decide +kernel
theorem dX9_likes_28 : decode cX9_likes 28 = .ok (.invokevirtual 62, 3) := by decide +kernel
theorem dX9_likes_31 : decode cX9_likes 31 = .ok (.goto 8, 3) := by decide +kernel
theorem dX9_likes_34 : decode cX9_likes 34 = .ok (.aload_n 0, 1) := by decide +kernel
theorem dX9_likes_35 : decode cX9_likes 35 = .ok (.iconst 1, 1) := by decide +kernel
theorem dX9_likes_36 : decode cX9_likes 36 = .ok (.invokevirtual 58, 3) := by decide +kernel
theorem dX9_likes_39 : decode cX9_likes 39 = .ok (.ireturn, 1) := by decide +kernel
theorem dX9_loaded_0 : decode cX9_loaded 0 = .ok (.aload_n 0, 1) := by decide +kernel
theorem dX9_loaded_1 : decode cX9_loaded 1 = .ok (.iconst 0, 1) := by decide +kernel
theorem dX9_loaded_2 : decode cX9_loaded 2 = .ok (.putfield 52, 3) := by decide +kernel
theorem dX9_loaded_5 : decode cX9_loaded 5 = .ok (.aload_n 0, 1) := by decide +kernel
theorem dX9_loaded_6 : decode cX9_loaded 6 = .ok (.iload_n 1, 1) := by decide +kernel
