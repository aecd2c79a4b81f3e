theorem dX6_init_0 : decode cX6_init 0 = .ok (.aload_n 0, 1) := by decide +kernel
theorem dX6_init_1 : decode cX6_init 1 = .ok (.invokespecial 3, 3) := by decide +kernel
theorem dX6_init_4 : decode cX6_init 4 = .ok (.aload_n 0, 1) := by decide +kernel
theorem dX6_init_5 : decode cX6_init 5 = .ok (.sipush 900, 3) := by decide +kernel
theorem dX6_init_8 : decode cX6_init 8 = .ok (.newarray .byte, 2) := by decide +kernel
theorem dX6_init_10 : decode cX6_init 10 = .ok (.putfield 9, 3) := by decide +kernel
theorem dX6_init_13 : decode cX6_init 13 = .ok (.aload_n 0, 1) := by decide +kernel
theorem dX6_init_14 : decode cX6_init 14 = .ok (.bipush 16, 2) := by decide +kernel
theorem dX6_init_16 : decode cX6_init 16 = .ok (.newarray .long, 2) := by decide +kernel
theorem dX6_init_18 : decode cX6_init 18 = .ok (.putfield 15, 3) := by decide +kernel
theorem dX6_init_21 : decode cX6_init 21 = .ok (.aload_n 0, 1) := by decide +kernel
theorem dX6_init_22 : decode cX6_init 22 = .ok (.bipush 16, 2) := by decide +kernel
theorem dX6_init_24 : decode cX6_init 24 = .ok (.newarray .int, 2) := by decide +kernel
theorem dX6_init_26 : decode cX6_init 26 = .ok (.putfield 19, 3) := by decide +kernel
theorem dX6_init_29 : decode cX6_init 29 = .ok (.aload_n 0, 1) := by decide +kernel
theorem dX6_init_30 : decode cX6_init 30 = .ok (.bipush 16, 2) := by decide +kernel
theorem dX6_init_32 : decode cX6_init 32 = .ok (.newarray .int, 2) := by decide +kernel
theorem dX6_init_34 : decode cX6_init 34 = .ok (.putfield 23, 3) := by decide +kernel
theorem dX6_init_37 : decode cX6_init 37 = .ok (.return_, 1) := by decide +kernel
theorem dX6_write_0 : decode cX6_write 0 = .ok (.iconst 0, 1) := by decide +kernel
theorem dX6_write_1 : decode cX6_write 1 = .ok (.istore_n 3, 1) := by decide +kernel
theorem dX6_write_2 : decode cX6_write 2 = .ok (.iload_n 3, 1) := by decide +kernel
theorem dX6_write_3 : decode cX6_write 3 = .ok (.iconst 4, 1) := by decide +kernel
theorem dX6_write_4 : decode cX6_write 4 = .ok (.if_icmp .ge 42, 3) := by decide +kernel
theorem dX6_write_7 : decode cX6_write 7 = .ok (.iload_n 1, 1) := by decide +kernel
theorem dX6_write_8 : decode cX6_write 8 = .ok (.iload_n 3, 1) := by decide +kernel
theorem dX6_write_9 : decode cX6_write 9 = .ok (.iadd, 1) := by decide +kernel
theorem dX6_write_10 : decode cX6_write 10 = .ok (.ifCond .lt 30, 3) := by decide +kernel
theorem dX6_write_13 : decode cX6_write 13 = .ok (.iload_n 1, 1) := by decide +kernel
theorem dX6_write_14 : decode cX6_write 14 = .ok (.iload_n 3, 1) := by decide +kernel
theorem dX6_write_15 : decode cX6_write 15 = .ok (.iadd, 1) := by decide +kernel
theorem dX6_write_16 : decode cX6_write 16 = .ok (.sipush 900, 3) := by decide +kernel
theorem dX6_write_19 : decode cX6_write 19 = .ok (.if_icmp .ge 21, 3) := by decide +kernel
theorem dX6_write_22 : decode cX6_write 22 = .ok (.aload_n 0, 1) := by decide +kernel
theorem dX6_write_23 : decode cX6_write 23 = .ok (.getfield 9, 3) := by decide +kernel
theorem dX6_write_26 : decode cX6_write 26 = .ok (.iload_n 1, 1) := by decide +kernel
theorem dX6_write_27 : decode cX6_write 27 = .ok (.iload_n 3, 1) := by decide +kernel
theorem dX6_write_28 : decode cX6_write 28 = .ok (.iadd, 1) := by decide +kernel
theorem dX6_write_29 : decode cX6_write 29 = .ok (.iload_n 2, 1) := by decide +kernel
theorem dX6_write_30 : decode cX6_write 30 = .ok (.bipush 24, 2) := by decide +kernel
theorem dX6_write_32 : decode cX6_write 32 = .ok (.bipush 8, 2) := by decide +kernel
theorem dX6_write_34 : decode cX6_write 34 = .ok (.iload_n 3, 1) := by decide +kernel
theorem dX6_write_35 : decode cX6_write 35 = .ok (.imul, 1) := by decide +kernel
theorem dX6_write_36 : decode cX6_write 36 = .ok (.isub, 1) := by decide +kernel
theorem dX6_write_37 : decode cX6_write 37 = .ok (.ishr, 1) := by decide +kernel
theorem dX6_write_38 : decode cX6_write 38 = .ok (.i2b, 1) := by decide +kernel
theorem dX6_write_39 : decode cX6_write 39 = .ok (.bastore, 1) := by decide +kernel
theorem dX6_write_40 : decode cX6_write 40 = .ok (.iinc 3 1, 3) := by decide +kernel
theorem dX6_write_43 : decode cX6_write 43 = .ok (.goto (-41), 3) := by decide +kernel
theorem dX6_write_46 : decode cX6_write 46 = .ok (.return_, 1) := by decide +kernel
theorem dX6_begin_0 : decode cX6_begin 0 = .ok (.aload_n 0, 1) := by decide +kernel
theorem dX6_begin_1 : decode cX6_begin 1 = .ok (.iload_n 1, 1) := by decide +kernel
theorem dX6_begin_2 : decode cX6_begin 2 = .ok (.sipush 900, 3) := by decide +kernel
theorem dX6_begin_5 : decode cX6_begin 5 = .ok (.invokestatic 26, 3) := by decide +kernel
theorem dX6_begin_8 : decode cX6_begin 8 = .ok (.putfield 32, 3) := by decide +kernel
theorem dX6_begin_11 : decode cX6_begin 11 = .ok (.aload_n 0, 1) := by decide +kernel
theorem dX6_begin_12 : decode cX6_begin 12 = .ok (.iconst 0, 1) := by decide +kernel
theorem dX6_begin_13 : decode cX6_begin 13 = .ok (.putfield 36, 3) := by decide +kernel
theorem dX6_begin_16 : decode cX6_begin 16 = .ok (.aload_n 0, 1) := by decide +kernel
theorem dX6_begin_17 : decode cX6_begin 17 = .ok (.iconst 0, 1) := by decide +kernel
theorem dX6_begin_18 : decode cX6_begin 18 = .ok (.putfield 39, 3) := by decide +kernel
theorem dX6_begin_21 : decode cX6_begin 21 = .ok (.aload_n 0, 1) := by decide +kernel
theorem dX6_begin_22 : decode cX6_begin 22 = .ok (.iconst (-1), 1) := by decide +kernel
theorem dX6_begin_23 : decode cX6_begin 23 = .ok (.putfield 42, 3) := by decide +kernel
theorem dX6_begin_26 : decode cX6_begin 26 = .ok (.aload_n 0, 1) := by decide +kernel
theorem dX6_begin_27 : decode cX6_begin 27 = .ok (.iconst 0, 1) := by decide +kernel
theorem dX6_begin_28 : decode cX6_begin 28 = .ok (.putfield 45, 3) := by decide +kernel
theorem dX6_begin_31 : decode cX6_begin 31 = .ok (.aload_n 0, 1) := by decide +kernel
theorem dX6_begin_32 : decode cX6_begin 32 = .ok (.invokevirtual 48, 3) := by decide +kernel
theorem dX6_begin_35 : decode cX6_begin 35 = .ok (.return_, 1) := by decide +kernel
theorem dX6_isFine_0 : decode cX6_isFine 0 = .ok (.aload_n 0, 1) := by decide +kernel
theorem dX6_isFine_1 : decode cX6_isFine 1 = .ok (.getfield 39, 3) := by decide +kernel
theorem dX6_isFine_4 : decode cX6_isFine 4 = .ok (.ifCond .ne 7, 3) := by decide +kernel
theorem dX6_isFine_7 : decode cX6_isFine 7 = .ok (.iconst 1, 1) := by decide +kernel
theorem dX6_isFine_8 : decode cX6_isFine 8 = .ok (.goto 4, 3) := by decide +kernel
theorem dX6_isFine_11 : decode cX6_isFine 11 = .ok (.iconst 0, 1) := by decide +kernel
theorem dX6_isFine_12 : decode cX6_isFine 12 = .ok (.ireturn, 1) := by decide +kernel
theorem dX6_isAtEnd_0 : decode cX6_isAtEnd 0 = .ok (.aload_n 0, 1) := by decide +kernel
theorem dX6_isAtEnd_1 : decode cX6_isAtEnd 1 = .ok (.getfield 51, 3) := by decide +kernel
theorem dX6_isAtEnd_4 : decode cX6_isAtEnd 4 = .ok (.ifCond .ne 7, 3) := by decide +kernel
theorem dX6_isAtEnd_7 : decode cX6_isAtEnd 7 = .ok (.iconst 1, 1) := by decide +kernel
theorem dX6_isAtEnd_8 : decode cX6_isAtEnd 8 = .ok (.goto 4, 3) := by decide +kernel
theorem dX6_isAtEnd_11 : decode cX6_isAtEnd 11 = .ok (.iconst 0, 1) := by decide +kernel
theorem dX6_isAtEnd_12 : decode cX6_isAtEnd 12 = .ok (.ireturn, 1) := by decide +kernel
theorem dX6_firstFault_0 : decode cX6_firstFault 0 = .ok (.aload_n 0, 1) := by decide +kernel
theorem dX6_firstFault_1 : decode cX6_firstFault 1 = .ok (.getfield 39, 3) := by decide +kernel
theorem dX6_firstFault_4 : decode cX6_firstFault 4 = .ok (.ireturn, 1) := by decide +kernel
theorem dX6_faultPlace_0 : decode cX6_faultPlace 0 = .ok (.aload_n 0, 1) := by decide +kernel
theorem dX6_faultPlace_1 : decode cX6_faultPlace 1 = .ok (.getfield 42, 3) := by decide +kernel
theorem dX6_faultPlace_4 : decode cX6_faultPlace 4 = .ok (.ireturn, 1) := by decide +kernel
theorem dX6_fail_0 : decode cX6_fail 0 = .ok (.aload_n 0, 1) := by decide +kernel
theorem dX6_fail_1 : decode cX6_fail 1 = .ok (.getfield 39, 3) := by decide +kernel
theorem dX6_fail_4 : decode cX6_fail 4 = .ok (.ifCond .ne 16, 3) := by decide +kernel
theorem dX6_fail_7 : decode cX6_fail 7 = .ok (.aload_n 0, 1) := by decide +kernel
theorem dX6_fail_8 : decode cX6_fail 8 = .ok (.iload_n 1, 1) := by decide +kernel
theorem dX6_fail_9 : decode cX6_fail 9 = .ok (.putfield 39, 3) := by decide +kernel
theorem dX6_fail_12 : decode cX6_fail 12 = .ok (.aload_n 0, 1) := by decide +kernel
theorem dX6_fail_13 : decode cX6_fail 13 = .ok (.aload_n 0, 1) := by decide +kernel
theorem dX6_fail_14 : decode cX6_fail 14 = .ok (.getfield 54, 3) := by decide +kernel
theorem dX6_fail_17 : decode cX6_fail 17 = .ok (.putfield 42, 3) := by decide +kernel
theorem dX6_fail_20 : decode cX6_fail 20 = .ok (.return_, 1) := by decide +kernel
theorem dX6_next_0 : decode cX6_next 0 = .ok (.aload_n 0, 1) := by decide +kernel
theorem dX6_next_1 : decode cX6_next 1 = .ok (.aload_n 0, 1) := by decide +kernel
theorem dX6_next_2 : decode cX6_next 2 = .ok (.getfield 36, 3) := by decide +kernel
theorem dX6_next_5 : decode cX6_next 5 = .ok (.putfield 54, 3) := by decide +kernel
theorem dX6_next_8 : decode cX6_next 8 = .ok (.aload_n 0, 1) := by decide +kernel
theorem dX6_next_9 : decode cX6_next 9 = .ok (.getfield 54, 3) := by decide +kernel
theorem dX6_next_12 : decode cX6_next 12 = .ok (.aload_n 0, 1) := by decide +kernel
theorem dX6_next_13 : decode cX6_next 13 = .ok (.getfield 32, 3) := by decide +kernel
theorem dX6_next_16 : decode cX6_next 16 = .ok (.if_icmp .ge 30, 3) := by decide +kernel
theorem dX6_next_19 : decode cX6_next 19 = .ok (.aload_n 0, 1) := by decide +kernel
theorem dX6_next_20 : decode cX6_next 20 = .ok (.getfield 9, 3) := by decide +kernel
theorem dX6_next_23 : decode cX6_next 23 = .ok (.aload_n 0, 1) := by decide +kernel
theorem dX6_next_24 : decode cX6_next 24 = .ok (.getfield 54, 3) := by decide +kernel
theorem dX6_next_27 : decode cX6_next 27 = .ok (.baload, 1) := by decide +kernel
theorem dX6_next_28 : decode cX6_next 28 = .ok (.bipush 32, 2) := by decide +kernel
theorem dX6_next_30 : decode cX6_next 30 = .ok (.if_icmp .ne 16, 3) := by decide +kernel
theorem dX6_next_33 : decode cX6_next 33 = .ok (.aload_n 0, 1) := by decide +kernel
theorem dX6_next_34 : decode cX6_next 34 = .ok (.dup, 1) := by decide +kernel
theorem dX6_next_35 : decode cX6_next 35 = .ok (.getfield 54, 3) := by decide +kernel
theorem dX6_next_38 : decode cX6_next 38 = .ok (.iconst 1, 1) := by decide +kernel
theorem dX6_next_39 : decode cX6_next 39 = .ok (.iadd, 1) := by decide +kernel
theorem dX6_next_40 : decode cX6_next 40 = .ok (.putfield 54, 3) := by decide +kernel
theorem dX6_next_43 : decode cX6_next 43 = .ok (.goto (-35), 3) := by decide +kernel
theorem dX6_next_46 : decode cX6_next 46 = .ok (.aload_n 0, 1) := by decide +kernel
theorem dX6_next_47 : decode cX6_next 47 = .ok (.aload_n 0, 1) := by decide +kernel
theorem dX6_next_48 : decode cX6_next 48 = .ok (.getfield 54, 3) := by decide +kernel
theorem dX6_next_51 : decode cX6_next 51 = .ok (.putfield 36, 3) := by decide +kernel
theorem dX6_next_54 : decode cX6_next 54 = .ok (.aload_n 0, 1) := by decide +kernel
theorem dX6_next_55 : decode cX6_next 55 = .ok (.lconst 0, 1) := by decide +kernel
theorem dX6_next_56 : decode cX6_next 56 = .ok (.putfield 57, 3) := by decide +kernel
theorem dX6_next_59 : decode cX6_next 59 = .ok (.aload_n 0, 1) := by decide +kernel
theorem dX6_next_60 : decode cX6_next 60 = .ok (.iconst 0, 1) := by decide +kernel
theorem dX6_next_61 : decode cX6_next 61 = .ok (.putfield 61, 3) := by decide +kernel
theorem dX6_next_64 : decode cX6_next 64 = .ok (.aload_n 0, 1) := by decide +kernel
theorem dX6_next_65 : decode cX6_next 65 = .ok (.getfield 36, 3) := by decide +kernel
theorem dX6_next_68 : decode cX6_next 68 = .ok (.aload_n 0, 1) := by decide +kernel
theorem dX6_next_69 : decode cX6_next 69 = .ok (.getfield 32, 3) := by decide +kernel
theorem dX6_next_72 : decode cX6_next 72 = .ok (.if_icmp .ge 66, 3) := by decide +kernel
theorem dX6_next_75 : decode cX6_next 75 = .ok (.aload_n 0, 1) := by decide +kernel
theorem dX6_next_76 : decode cX6_next 76 = .ok (.getfield 9, 3) := by decide +kernel
theorem dX6_next_79 : decode cX6_next 79 = .ok (.aload_n 0, 1) := by decide +kernel
theorem dX6_next_80 : decode cX6_next 80 = .ok (.getfield 36, 3) := by decide +kernel
theorem dX6_next_83 : decode cX6_next 83 = .ok (.baload, 1) := by decide +kernel
theorem dX6_next_84 : decode cX6_next 84 = .ok (.bipush 97, 2) := by decide +kernel
theorem dX6_next_86 : decode cX6_next 86 = .ok (.if_icmp .lt 52, 3) := by decide +kernel
theorem dX6_next_89 : decode cX6_next 89 = .ok (.aload_n 0, 1) := by decide +kernel
theorem dX6_next_90 : decode cX6_next 90 = .ok (.getfield 9, 3) := by decide +kernel
theorem dX6_next_93 : decode cX6_next 93 = .ok (.aload_n 0, 1) := by decide +kernel
theorem dX6_next_94 : decode cX6_next 94 = .ok (.getfield 36, 3) := by decide +kernel
theorem dX6_next_97 : decode cX6_next 97 = .ok (.baload, 1) := by decide +kernel
theorem dX6_next_98 : decode cX6_next 98 = .ok (.bipush 122, 2) := by decide +kernel
theorem dX6_next_100 : decode cX6_next 100 = .ok (.if_icmp .gt 38, 3) := by decide +kernel
theorem dX6_next_103 : decode cX6_next 103 = .ok (.aload_n 0, 1) := by decide +kernel
theorem dX6_next_104 : decode cX6_next 104 = .ok (.aload_n 0, 1) := by decide +kernel
theorem dX6_next_105 : decode cX6_next 105 = .ok (.getfield 57, 3) := by decide +kernel
theorem dX6_next_108 : decode cX6_next 108 = .ok (.bipush 8, 2) := by decide +kernel
theorem dX6_next_110 : decode cX6_next 110 = .ok (.lshl, 1) := by decide +kernel
theorem dX6_next_111 : decode cX6_next 111 = .ok (.aload_n 0, 1) := by decide +kernel
theorem dX6_next_112 : decode cX6_next 112 = .ok (.getfield 9, 3) := by decide +kernel
theorem dX6_next_115 : decode cX6_next 115 = .ok (.aload_n 0, 1) := by decide +kernel
theorem dX6_next_116 : decode cX6_next 116 = .ok (.getfield 36, 3) := by decide +kernel
theorem dX6_next_119 : decode cX6_next 119 = .ok (.baload, 1) := by decide +kernel
theorem dX6_next_120 : decode cX6_next 120 = .ok (.i2l, 1) := by decide +kernel
theorem dX6_next_121 : decode cX6_next 121 = .ok (.lor, 1) := by decide +kernel
theorem dX6_next_122 : decode cX6_next 122 = .ok (.putfield 57, 3) := by decide +kernel
theorem dX6_next_125 : decode cX6_next 125 = .ok (.aload_n 0, 1) := by decide +kernel
theorem dX6_next_126 : decode cX6_next 126 = .ok (.dup, 1) := by decide +kernel
theorem dX6_next_127 : decode cX6_next 127 = .ok (.getfield 36, 3) := by decide +kernel
theorem dX6_next_130 : decode cX6_next 130 = .ok (.iconst 1, 1) := by decide +kernel
theorem dX6_next_131 : decode cX6_next 131 = .ok (.iadd, 1) := by decide +kernel
theorem dX6_next_132 : decode cX6_next 132 = .ok (.putfield 36, 3) := by decide +kernel
theorem dX6_next_135 : decode cX6_next 135 = .ok (.goto (-71), 3) := by decide +kernel
theorem dX6_next_138 : decode cX6_next 138 = .ok (.aload_n 0, 1) := by decide +kernel
theorem dX6_next_139 : decode cX6_next 139 = .ok (.getfield 36, 3) := by decide +kernel
theorem dX6_next_142 : decode cX6_next 142 = .ok (.aload_n 0, 1) := by decide +kernel
theorem dX6_next_143 : decode cX6_next 143 = .ok (.getfield 54, 3) := by decide +kernel
theorem dX6_next_146 : decode cX6_next 146 = .ok (.if_icmp .le 27, 3) := by decide +kernel
theorem dX6_next_149 : decode cX6_next 149 = .ok (.aload_n 0, 1) := by decide +kernel
theorem dX6_next_150 : decode cX6_next 150 = .ok (.aload_n 0, 1) := by decide +kernel
theorem dX6_next_151 : decode cX6_next 151 = .ok (.getfield 36, 3) := by decide +kernel
theorem dX6_next_154 : decode cX6_next 154 = .ok (.aload_n 0, 1) := by decide +kernel
theorem dX6_next_155 : decode cX6_next 155 = .ok (.getfield 54, 3) := by decide +kernel
theorem dX6_next_158 : decode cX6_next 158 = .ok (.isub, 1) := by decide +kernel
theorem dX6_next_159 : decode cX6_next 159 = .ok (.bipush 8, 2) := by decide +kernel
theorem dX6_next_161 : decode cX6_next 161 = .ok (.if_icmp .gt 7, 3) := by decide +kernel
theorem dX6_next_164 : decode cX6_next 164 = .ok (.iconst 1, 1) := by decide +kernel
theorem dX6_next_165 : decode cX6_next 165 = .ok (.goto 4, 3) := by decide +kernel
theorem dX6_next_168 : decode cX6_next 168 = .ok (.iconst 4, 1) := by decide +kernel
theorem dX6_next_169 : decode cX6_next 169 = .ok (.putfield 51, 3) := by decide +kernel
theorem dX6_next_172 : decode cX6_next 172 = .ok (.return_, 1) := by decide +kernel
theorem dX6_next_173 : decode cX6_next 173 = .ok (.aload_n 0, 1) := by decide +kernel
theorem dX6_next_174 : decode cX6_next 174 = .ok (.getfield 36, 3) := by decide +kernel
theorem dX6_next_177 : decode cX6_next 177 = .ok (.aload_n 0, 1) := by decide +kernel
theorem dX6_next_178 : decode cX6_next 178 = .ok (.getfield 32, 3) := by decide +kernel
theorem dX6_next_181 : decode cX6_next 181 = .ok (.if_icmp .ge 68, 3) := by decide +kernel
theorem dX6_next_184 : decode cX6_next 184 = .ok (.aload_n 0, 1) := by decide +kernel
theorem dX6_next_185 : decode cX6_next 185 = .ok (.getfield 9, 3) := by decide +kernel
theorem dX6_next_188 : decode cX6_next 188 = .ok (.aload_n 0, 1) := by decide +kernel
theorem dX6_next_189 : decode cX6_next 189 = .ok (.getfield 36, 3) := by decide +kernel
theorem dX6_next_192 : decode cX6_next 192 = .ok (.baload, 1) := by decide +kernel
theorem dX6_next_193 : decode cX6_next 193 = .ok (.bipush 48, 2) := by decide +kernel
theorem dX6_next_195 : decode cX6_next 195 = .ok (.if_icmp .lt 54, 3) := by decide +kernel
theorem dX6_next_198 : decode cX6_next 198 = .ok (.aload_n 0, 1) := by decide +kernel
theorem dX6_next_199 : decode cX6_next 199 = .ok (.getfield 9, 3) := by decide +kernel
theorem dX6_next_202 : decode cX6_next 202 = .ok (.aload_n 0, 1) := by decide +kernel
theorem dX6_next_203 : decode cX6_next 203 = .ok (.getfield 36, 3) := by decide +kernel
theorem dX6_next_206 : decode cX6_next 206 = .ok (.baload, 1) := by decide +kernel
theorem dX6_next_207 : decode cX6_next 207 = .ok (.bipush 57, 2) := by decide +kernel
theorem dX6_next_209 : decode cX6_next 209 = .ok (.if_icmp .gt 40, 3) := by decide +kernel
theorem dX6_next_212 : decode cX6_next 212 = .ok (.aload_n 0, 1) := by decide +kernel
theorem dX6_next_213 : decode cX6_next 213 = .ok (.aload_n 0, 1) := by decide +kernel
theorem dX6_next_214 : decode cX6_next 214 = .ok (.getfield 61, 3) := by decide +kernel
theorem dX6_next_217 : decode cX6_next 217 = .ok (.bipush 10, 2) := by decide +kernel
theorem dX6_next_219 : decode cX6_next 219 = .ok (.imul, 1) := by decide +kernel
theorem dX6_next_220 : decode cX6_next 220 = .ok (.aload_n 0, 1) := by decide +kernel
theorem dX6_next_221 : decode cX6_next 221 = .ok (.getfield 9, 3) := by decide +kernel
theorem dX6_next_224 : decode cX6_next 224 = .ok (.aload_n 0, 1) := by decide +kernel
theorem dX6_next_225 : decode cX6_next 225 = .ok (.getfield 36, 3) := by decide +kernel
theorem dX6_next_228 : decode cX6_next 228 = .ok (.baload, 1) := by decide +kernel
theorem dX6_next_229 : decode cX6_next 229 = .ok (.iadd, 1) := by decide +kernel
theorem dX6_next_230 : decode cX6_next 230 = .ok (.bipush 48, 2) := by decide +kernel
theorem dX6_next_232 : decode cX6_next 232 = .ok (.isub, 1) := by decide +kernel
theorem dX6_next_233 : decode cX6_next 233 = .ok (.putfield 61, 3) := by decide +kernel
theorem dX6_next_236 : decode cX6_next 236 = .ok (.aload_n 0, 1) := by decide +kernel
theorem dX6_next_237 : decode cX6_next 237 = .ok (.dup, 1) := by decide +kernel
theorem dX6_next_238 : decode cX6_next 238 = .ok (.getfield 36, 3) := by decide +kernel
theorem dX6_next_241 : decode cX6_next 241 = .ok (.iconst 1, 1) := by decide +kernel
theorem dX6_next_242 : decode cX6_next 242 = .ok (.iadd, 1) := by decide +kernel
theorem dX6_next_243 : decode cX6_next 243 = .ok (.putfield 36, 3) := by decide +kernel
theorem dX6_next_246 : decode cX6_next 246 = .ok (.goto (-73), 3) := by decide +kernel
theorem dX6_next_249 : decode cX6_next 249 = .ok (.aload_n 0, 1) := by decide +kernel
theorem dX6_next_250 : decode cX6_next 250 = .ok (.getfield 36, 3) := by decide +kernel
theorem dX6_next_253 : decode cX6_next 253 = .ok (.aload_n 0, 1) := by decide +kernel
theorem dX6_next_254 : decode cX6_next 254 = .ok (.getfield 54, 3) := by decide +kernel
theorem dX6_next_257 : decode cX6_next 257 = .ok (.if_icmp .le 28, 3) := by decide +kernel
theorem dX6_next_260 : decode cX6_next 260 = .ok (.aload_n 0, 1) := by decide +kernel
theorem dX6_next_261 : decode cX6_next 261 = .ok (.aload_n 0, 1) := by decide +kernel
theorem dX6_next_262 : decode cX6_next 262 = .ok (.getfield 36, 3) := by decide +kernel
theorem dX6_next_265 : decode cX6_next 265 = .ok (.aload_n 0, 1) := by decide +kernel
theorem dX6_next_266 : decode cX6_next 266 = .ok (.getfield 54, 3) := by decide +kernel
theorem dX6_next_269 : decode cX6_next 269 = .ok (.isub, 1) := by decide +kernel
theorem dX6_next_270 : decode cX6_next 270 = .ok (.iconst 3, 1) := by decide +kernel
theorem dX6_next_271 : decode cX6_next 271 = .ok (.if_icmp .gt 7, 3) := by decide +kernel
theorem dX6_next_274 : decode cX6_next 274 = .ok (.iconst 2, 1) := by decide +kernel
theorem dX6_next_275 : decode cX6_next 275 = .ok (.goto 4, 3) := by decide +kernel
theorem dX6_next_278 : decode cX6_next 278 = .ok (.iconst 4, 1) := by decide +kernel
theorem dX6_next_279 : decode cX6_next 279 = .ok (.putfield 51, 3) := by decide +kernel
theorem dX6_next_282 : decode cX6_next 282 = .ok (.goto 69, 3) := by decide +kernel
theorem dX6_next_285 : decode cX6_next 285 = .ok (.aload_n 0, 1) := by decide +kernel
theorem dX6_next_286 : decode cX6_next 286 = .ok (.getfield 54, 3) := by decide +kernel
theorem dX6_next_289 : decode cX6_next 289 = .ok (.aload_n 0, 1) := by decide +kernel
theorem dX6_next_290 : decode cX6_next 290 = .ok (.getfield 32, 3) := by decide +kernel
theorem dX6_next_293 : decode cX6_next 293 = .ok (.if_icmp .lt 11, 3) := by decide +kernel
theorem dX6_next_296 : decode cX6_next 296 = .ok (.aload_n 0, 1) := by decide +kernel
theorem dX6_next_297 : decode cX6_next 297 = .ok (.iconst 0, 1) := by decide +kernel
theorem dX6_next_298 : decode cX6_next 298 = .ok (.putfield 51, 3) := by decide +kernel
theorem dX6_next_301 : decode cX6_next 301 = .ok (.goto 50, 3) := by decide +kernel
theorem dX6_next_304 : decode cX6_next 304 = .ok (.aload_n 0, 1) := by decide +kernel
theorem dX6_next_305 : decode cX6_next 305 = .ok (.aload_n 0, 1) := by decide +kernel
theorem dX6_next_306 : decode cX6_next 306 = .ok (.getfield 9, 3) := by decide +kernel
theorem dX6_next_309 : decode cX6_next 309 = .ok (.aload_n 0, 1) := by decide +kernel
theorem dX6_next_310 : decode cX6_next 310 = .ok (.getfield 54, 3) := by decide +kernel
theorem dX6_next_313 : decode cX6_next 313 = .ok (.baload, 1) := by decide +kernel
theorem dX6_next_314 : decode cX6_next 314 = .ok (.bipush 59, 2) := by decide +kernel
theorem dX6_next_316 : decode cX6_next 316 = .ok (.if_icmp .eq 17, 3) := by decide +kernel
theorem dX6_next_319 : decode cX6_next 319 = .ok (.aload_n 0, 1) := by decide +kernel
theorem dX6_next_320 : decode cX6_next 320 = .ok (.getfield 9, 3) := by decide +kernel
theorem dX6_next_323 : decode cX6_next 323 = .ok (.aload_n 0, 1) := by decide +kernel
theorem dX6_next_324 : decode cX6_next 324 = .ok (.getfield 54, 3) := by decide +kernel
theorem dX6_next_327 : decode cX6_next 327 = .ok (.baload, 1) := by decide +kernel
theorem dX6_next_328 : decode cX6_next 328 = .ok (.bipush 44, 2) := by decide +kernel
theorem dX6_next_330 : decode cX6_next 330 = .ok (.if_icmp .ne 7, 3) := by decide +kernel
theorem dX6_next_333 : decode cX6_next 333 = .ok (.iconst 3, 1) := by decide +kernel
theorem dX6_next_334 : decode cX6_next 334 = .ok (.goto 4, 3) := by decide +kernel
theorem dX6_next_337 : decode cX6_next 337 = .ok (.iconst 4, 1) := by decide +kernel
theorem dX6_next_338 : decode cX6_next 338 = .ok (.putfield 51, 3) := by decide +kernel
theorem dX6_next_341 : decode cX6_next 341 = .ok (.aload_n 0, 1) := by decide +kernel
theorem dX6_next_342 : decode cX6_next 342 = .ok (.aload_n 0, 1) := by decide +kernel
theorem dX6_next_343 : decode cX6_next 343 = .ok (.getfield 54, 3) := by decide +kernel
theorem dX6_next_346 : decode cX6_next 346 = .ok (.iconst 1, 1) := by decide +kernel
theorem dX6_next_347 : decode cX6_next 347 = .ok (.iadd, 1) := by decide +kernel
theorem dX6_next_348 : decode cX6_next 348 = .ok (.putfield 36, 3) := by decide +kernel
theorem dX6_next_351 : decode cX6_next 351 = .ok (.return_, 1) := by decide +kernel
theorem dX6_isSign_0 : decode cX6_isSign 0 = .ok (.aload_n 0, 1) := by decide +kernel
theorem dX6_isSign_1 : decode cX6_isSign 1 = .ok (.getfield 51, 3) := by decide +kernel
theorem dX6_isSign_4 : decode cX6_isSign 4 = .ok (.iconst 3, 1) := by decide +kernel
theorem dX6_isSign_5 : decode cX6_isSign 5 = .ok (.if_icmp .ne 31, 3) := by decide +kernel
theorem dX6_isSign_8 : decode cX6_isSign 8 = .ok (.aload_n 0, 1) := by decide +kernel
theorem dX6_isSign_9 : decode cX6_isSign 9 = .ok (.getfield 54, 3) := by decide +kernel
theorem dX6_isSign_12 : decode cX6_isSign 12 = .ok (.aload_n 0, 1) := by decide +kernel
theorem dX6_isSign_13 : decode cX6_isSign 13 = .ok (.getfield 32, 3) := by decide +kernel
theorem dX6_isSign_16 : decode cX6_isSign 16 = .ok (.if_icmp .ge 20, 3) := by decide +kernel
theorem dX6_isSign_19 : decode cX6_isSign 19 = .ok (.aload_n 0, 1) := by decide +kernel
theorem dX6_isSign_20 : decode cX6_isSign 20 = .ok (.getfield 9, 3) := by decide +kernel
theorem dX6_isSign_23 : decode cX6_isSign 23 = .ok (.aload_n 0, 1) := by decide +kernel
theorem dX6_isSign_24 : decode cX6_isSign 24 = .ok (.getfield 54, 3) := by decide +kernel
theorem dX6_isSign_27 : decode cX6_isSign 27 = .ok (.baload, 1) := by decide +kernel
theorem dX6_isSign_28 : decode cX6_isSign 28 = .ok (.iload_n 1, 1) := by decide +kernel
theorem dX6_isSign_29 : decode cX6_isSign 29 = .ok (.if_icmp .ne 7, 3) := by decide +kernel
theorem dX6_isSign_32 : decode cX6_isSign 32 = .ok (.iconst 1, 1) := by decide +kernel
theorem dX6_isSign_33 : decode cX6_isSign 33 = .ok (.goto 4, 3) := by decide +kernel
theorem dX6_isSign_36 : decode cX6_isSign 36 = .ok (.iconst 0, 1) := by decide +kernel
theorem dX6_isSign_37 : decode cX6_isSign 37 = .ok (.ireturn, 1) := by decide +kernel
theorem dX6_isWord_0 : decode cX6_isWord 0 = .ok (.aload_n 0, 1) := by decide +kernel
theorem dX6_isWord_1 : decode cX6_isWord 1 = .ok (.getfield 51, 3) := by decide +kernel
theorem dX6_isWord_4 : decode cX6_isWord 4 = .ok (.iconst 1, 1) := by decide +kernel
theorem dX6_isWord_5 : decode cX6_isWord 5 = .ok (.if_icmp .ne 19, 3) := by decide +kernel
theorem dX6_isWord_8 : decode cX6_isWord 8 = .ok (.aload_n 0, 1) := by decide +kernel
theorem dX6_isWord_9 : decode cX6_isWord 9 = .ok (.getfield 36, 3) := by decide +kernel
theorem dX6_isWord_12 : decode cX6_isWord 12 = .ok (.aload_n 0, 1) := by decide +kernel
theorem dX6_isWord_13 : decode cX6_isWord 13 = .ok (.getfield 54, 3) := by decide +kernel
theorem dX6_isWord_16 : decode cX6_isWord 16 = .ok (.isub, 1) := by decide +kernel
theorem dX6_isWord_17 : decode cX6_isWord 17 = .ok (.aload_n 1, 1) := by decide +kernel
theorem dX6_isWord_18 : decode cX6_isWord 18 = .ok (.invokevirtual 64, 3) := by decide +kernel
theorem dX6_isWord_21 : decode cX6_isWord 21 = .ok (.if_icmp .eq 5, 3) := by decide +kernel
theorem dX6_isWord_24 : decode cX6_isWord 24 = .ok (.iconst 0, 1) := by decide +kernel
theorem dX6_isWord_25 : decode cX6_isWord 25 = .ok (.ireturn, 1) := by decide +kernel
theorem dX6_isWord_26 : decode cX6_isWord 26 = .ok (.iconst 0, 1) := by decide +kernel
theorem dX6_isWord_27 : decode cX6_isWord 27 = .ok (.istore_n 2, 1) := by decide +kernel
theorem dX6_isWord_28 : decode cX6_isWord 28 = .ok (.iload_n 2, 1) := by decide +kernel
theorem dX6_isWord_29 : decode cX6_isWord 29 = .ok (.aload_n 1, 1) := by decide +kernel
theorem dX6_isWord_30 : decode cX6_isWord 30 = .ok (.invokevirtual 64, 3) := by decide +kernel
theorem dX6_isWord_33 : decode cX6_isWord 33 = .ok (.if_icmp .ge 30, 3) := by decide +kernel
theorem dX6_isWord_36 : decode cX6_isWord 36 = .ok (.aload_n 0, 1) := by decide +kernel
theorem dX6_isWord_37 : decode cX6_isWord 37 = .ok (.getfield 9, 3) := by decide +kernel
theorem dX6_isWord_40 : decode cX6_isWord 40 = .ok (.aload_n 0, 1) := by decide +kernel
theorem dX6_isWord_41 : decode cX6_isWord 41 = .ok (.getfield 54, 3) := by decide +kernel
theorem dX6_isWord_44 : decode cX6_isWord 44 = .ok (.iload_n 2, 1) := by decide +kernel
theorem dX6_isWord_45 : decode cX6_isWord 45 = .ok (.iadd, 1) := by decide +kernel
theorem dX6_isWord_46 : decode cX6_isWord 46 = .ok (.baload, 1) := by decide +kernel
theorem dX6_isWord_47 : decode cX6_isWord 47 = .ok (.aload_n 1, 1) := by decide +kernel
theorem dX6_isWord_48 : decode cX6_isWord 48 = .ok (.iload_n 2, 1) := by decide +kernel
theorem dX6_isWord_49 : decode cX6_isWord 49 = .ok (.invokevirtual 70, 3) := by decide +kernel
theorem dX6_isWord_52 : decode cX6_isWord 52 = .ok (.if_icmp .eq 5, 3) := by decide +kernel
theorem dX6_isWord_55 : decode cX6_isWord 55 = .ok (.iconst 0, 1) := by decide +kernel
theorem dX6_isWord_56 : decode cX6_isWord 56 = .ok (.ireturn, 1) := by decide +kernel
theorem dX6_isWord_57 : decode cX6_isWord 57 = .ok (.iinc 2 1, 3) := by decide +kernel
theorem dX6_isWord_60 : decode cX6_isWord 60 = .ok (.goto (-32), 3) := by decide +kernel
theorem dX6_isWord_63 : decode cX6_isWord 63 = .ok (.iconst 1, 1) := by decide +kernel
theorem dX6_isWord_64 : decode cX6_isWord 64 = .ok (.ireturn, 1) := by decide +kernel
theorem dX6_reserved_0 : decode cX6_reserved 0 = .ok (.aload_n 0, 1) := by decide +kernel
theorem dX6_reserved_1 : decode cX6_reserved 1 = .ok (.getfield 51, 3) := by decide +kernel
theorem dX6_reserved_4 : decode cX6_reserved 4 = .ok (.iconst 1, 1) := by decide +kernel
theorem dX6_reserved_5 : decode cX6_reserved 5 = .ok (.if_icmp .eq 5, 3) := by decide +kernel
theorem dX6_reserved_8 : decode cX6_reserved 8 = .ok (.iconst (-1), 1) := by decide +kernel
theorem dX6_reserved_9 : decode cX6_reserved 9 = .ok (.ireturn, 1) := by decide +kernel
theorem dX6_reserved_10 : decode cX6_reserved 10 = .ok (.iconst 0, 1) := by decide +kernel
theorem dX6_reserved_11 : decode cX6_reserved 11 = .ok (.istore_n 1, 1) := by decide +kernel
theorem dX6_reserved_12 : decode cX6_reserved 12 = .ok (.iload_n 1, 1) := by decide +kernel
theorem dX6_reserved_13 : decode cX6_reserved 13 = .ok (.bipush 8, 2) := by decide +kernel
theorem dX6_reserved_15 : decode cX6_reserved 15 = .ok (.iadd, 1) := by decide +kernel
theorem dX6_reserved_16 : decode cX6_reserved 16 = .ok (.ldc 74, 2) := by decide +kernel
theorem dX6_reserved_18 : decode cX6_reserved 18 = .ok (.invokevirtual 64, 3) := by decide +kernel
theorem dX6_reserved_21 : decode cX6_reserved 21 = .ok (.if_icmp .gt 84, 3) := by decide +kernel
theorem dX6_reserved_24 : decode cX6_reserved 24 = .ok (.iconst 1, 1) := by decide +kernel
theorem dX6_reserved_25 : decode cX6_reserved 25 = .ok (.istore_n 2, 1) := by decide +kernel
theorem dX6_reserved_26 : decode cX6_reserved 26 = .ok (.iconst 0, 1) := by decide +kernel
theorem dX6_reserved_27 : decode cX6_reserved 27 = .ok (.istore_n 3, 1) := by decide +kernel
theorem dX6_reserved_28 : decode cX6_reserved 28 = .ok (.iload_n 3, 1) := by decide +kernel
theorem dX6_reserved_29 : decode cX6_reserved 29 = .ok (.bipush 8, 2) := by decide +kernel
theorem dX6_reserved_31 : decode cX6_reserved 31 = .ok (.if_icmp .ge 59, 3) := by decide +kernel
theorem dX6_reserved_34 : decode cX6_reserved 34 = .ok (.iload_n 2, 1) := by decide +kernel
theorem dX6_reserved_35 : decode cX6_reserved 35 = .ok (.ifCond .eq 55, 3) := by decide +kernel
theorem dX6_reserved_38 : decode cX6_reserved 38 = .ok (.ldc 74, 2) := by decide +kernel
theorem dX6_reserved_40 : decode cX6_reserved 40 = .ok (.iload_n 1, 1) := by decide +kernel
theorem dX6_reserved_41 : decode cX6_reserved 41 = .ok (.iload_n 3, 1) := by decide +kernel
theorem dX6_reserved_42 : decode cX6_reserved 42 = .ok (.iadd, 1) := by decide +kernel
theorem dX6_reserved_43 : decode cX6_reserved 43 = .ok (.invokevirtual 70, 3) := by decide +kernel
theorem dX6_reserved_46 : decode cX6_reserved 46 = .ok (.aload_n 0, 1) := by decide +kernel
theorem dX6_reserved_47 : decode cX6_reserved 47 = .ok (.getfield 54, 3) := by decide +kernel
theorem dX6_reserved_50 : decode cX6_reserved 50 = .ok (.iload_n 3, 1) := by decide +kernel
theorem dX6_reserved_51 : decode cX6_reserved 51 = .ok (.iadd, 1) := by decide +kernel
theorem dX6_reserved_52 : decode cX6_reserved 52 = .ok (.aload_n 0, 1) := by decide +kernel
theorem dX6_reserved_53 : decode cX6_reserved 53 = .ok (.getfield 36, 3) := by decide +kernel
theorem dX6_reserved_56 : decode cX6_reserved 56 = .ok (.if_icmp .ge 17, 3) := by decide +kernel
theorem dX6_reserved_59 : decode cX6_reserved 59 = .ok (.aload_n 0, 1) := by decide +kernel
theorem dX6_reserved_60 : decode cX6_reserved 60 = .ok (.getfield 9, 3) := by decide +kernel
theorem dX6_reserved_63 : decode cX6_reserved 63 = .ok (.aload_n 0, 1) := by decide +kernel
theorem dX6_reserved_64 : decode cX6_reserved 64 = .ok (.getfield 54, 3) := by decide +kernel
theorem dX6_reserved_67 : decode cX6_reserved 67 = .ok (.iload_n 3, 1) := by decide +kernel
theorem dX6_reserved_68 : decode cX6_reserved 68 = .ok (.iadd, 1) := by decide +kernel
theorem dX6_reserved_69 : decode cX6_reserved 69 = .ok (.baload, 1) := by decide +kernel
theorem dX6_reserved_70 : decode cX6_reserved 70 = .ok (.goto 5, 3) := by decide +kernel
theorem dX6_reserved_73 : decode cX6_reserved 73 = .ok (.bipush 32, 2) := by decide +kernel
theorem dX6_reserved_75 : decode cX6_reserved 75 = .ok (.if_icmp .ne 7, 3) := by decide +kernel
theorem dX6_reserved_78 : decode cX6_reserved 78 = .ok (.iconst 1, 1) := by decide +kernel
theorem dX6_reserved_79 : decode cX6_reserved 79 = .ok (.goto 4, 3) := by decide +kernel
theorem dX6_reserved_82 : decode cX6_reserved 82 = .ok (.iconst 0, 1) := by decide +kernel
theorem dX6_reserved_83 : decode cX6_reserved 83 = .ok (.istore_n 2, 1) := by decide +kernel
theorem dX6_reserved_84 : decode cX6_reserved 84 = .ok (.iinc 3 1, 3) := by decide +kernel
theorem dX6_reserved_87 : decode cX6_reserved 87 = .ok (.goto (-59), 3) := by decide +kernel
theorem dX6_reserved_90 : decode cX6_reserved 90 = .ok (.iload_n 2, 1) := by decide +kernel
theorem dX6_reserved_91 : decode cX6_reserved 91 = .ok (.ifCond .eq 8, 3) := by decide +kernel
theorem dX6_reserved_94 : decode cX6_reserved 94 = .ok (.iload_n 1, 1) := by decide +kernel
theorem dX6_reserved_95 : decode cX6_reserved 95 = .ok (.bipush 8, 2) := by decide +kernel
theorem dX6_reserved_97 : decode cX6_reserved 97 = .ok (.idiv, 1) := by decide +kernel
theorem dX6_reserved_98 : decode cX6_reserved 98 = .ok (.ireturn, 1) := by decide +kernel
theorem dX6_reserved_99 : decode cX6_reserved 99 = .ok (.iinc 1 8, 3) := by decide +kernel
theorem dX6_reserved_102 : decode cX6_reserved 102 = .ok (.goto (-90), 3) := by decide +kernel
theorem dX6_reserved_105 : decode cX6_reserved 105 = .ok (.iconst (-1), 1) := by decide +kernel
theorem dX6_reserved_106 : decode cX6_reserved 106 = .ok (.ireturn, 1) := by decide +kernel
theorem dX6_expectSign_0 : decode cX6_expectSign 0 = .ok (.aload_n 0, 1) := by decide +kernel
theorem dX6_expectSign_1 : decode cX6_expectSign 1 = .ok (.getfield 39, 3) := by decide +kernel
theorem dX6_expectSign_4 : decode cX6_expectSign 4 = .ok (.ifCond .eq 4, 3) := by decide +kernel
theorem dX6_expectSign_7 : decode cX6_expectSign 7 = .ok (.return_, 1) := by decide +kernel
theorem dX6_expectSign_8 : decode cX6_expectSign 8 = .ok (.aload_n 0, 1) := by decide +kernel
theorem dX6_expectSign_9 : decode cX6_expectSign 9 = .ok (.iload_n 1, 1) := by decide +kernel
theorem dX6_expectSign_10 : decode cX6_expectSign 10 = .ok (.invokevirtual 76, 3) := by decide +kernel
theorem dX6_expectSign_13 : decode cX6_expectSign 13 = .ok (.ifCond .eq 10, 3) := by decide +kernel
theorem dX6_expectSign_16 : decode cX6_expectSign 16 = .ok (.aload_n 0, 1) := by decide +kernel
theorem dX6_expectSign_17 : decode cX6_expectSign 17 = .ok (.invokevirtual 48, 3) := by decide +kernel
theorem dX6_expectSign_20 : decode cX6_expectSign 20 = .ok (.goto 8, 3) := by decide +kernel
theorem dX6_expectSign_23 : decode cX6_expectSign 23 = .ok (.aload_n 0, 1) := by decide +kernel
theorem dX6_expectSign_24 : decode cX6_expectSign 24 = .ok (.iconst 1, 1) := by decide +kernel
theorem dX6_expectSign_25 : decode cX6_expectSign 25 = .ok (.invokevirtual 80, 3) := by decide +kernel
theorem dX6_expectSign_28 : decode cX6_expectSign 28 = .ok (.return_, 1) := by decide +kernel
theorem dX6_expectWord_0 : decode cX6_expectWord 0 = .ok (.aload_n 0, 1) := by decide +kernel
theorem dX6_expectWord_1 : decode cX6_expectWord 1 = .ok (.getfield 39, 3) := by decide +kernel
theorem dX6_expectWord_4 : decode cX6_expectWord 4 = .ok (.ifCond .eq 4, 3) := by decide +kernel
theorem dX6_expectWord_7 : decode cX6_expectWord 7 = .ok (.return_, 1) := by decide +kernel
theorem dX6_expectWord_8 : decode cX6_expectWord 8 = .ok (.aload_n 0, 1) := by decide +kernel
theorem dX6_expectWord_9 : decode cX6_expectWord 9 = .ok (.aload_n 1, 1) := by decide +kernel
theorem dX6_expectWord_10 : decode cX6_expectWord 10 = .ok (.invokevirtual 84, 3) := by decide +kernel
theorem dX6_expectWord_13 : decode cX6_expectWord 13 = .ok (.ifCond .eq 10, 3) := by decide +kernel
theorem dX6_expectWord_16 : decode cX6_expectWord 16 = .ok (.aload_n 0, 1) := by decide +kernel
theorem dX6_expectWord_17 : decode cX6_expectWord 17 = .ok (.invokevirtual 48, 3) := by decide +kernel
theorem dX6_expectWord_20 : decode cX6_expectWord 20 = .ok (.goto 8, 3) := by decide +kernel
theorem dX6_expectWord_23 : decode cX6_expectWord 23 = .ok (.aload_n 0, 1) := by decide +kernel
theorem dX6_expectWord_24 : decode cX6_expectWord 24 = .ok (.iconst 1, 1) := by decide +kernel
theorem dX6_expectWord_25 : decode cX6_expectWord 25 = .ok (.invokevirtual 80, 3) := by decide +kernel
theorem dX6_expectWord_28 : decode cX6_expectWord 28 = .ok (.return_, 1) := by decide +kernel
theorem dX6_expectWhole_0 : decode cX6_expectWhole 0 = .ok (.aload_n 0, 1) := by decide +kernel
theorem dX6_expectWhole_1 : decode cX6_expectWhole 1 = .ok (.getfield 39, 3) := by decide +kernel
theorem dX6_expectWhole_4 : decode cX6_expectWhole 4 = .ok (.ifCond .eq 5, 3) := by decide +kernel
theorem dX6_expectWhole_7 : decode cX6_expectWhole 7 = .ok (.iload_n 1, 1) := by decide +kernel
theorem dX6_expectWhole_8 : decode cX6_expectWhole 8 = .ok (.ireturn, 1) := by decide +kernel
theorem dX6_expectWhole_9 : decode cX6_expectWhole 9 = .ok (.aload_n 0, 1) := by decide +kernel
theorem dX6_expectWhole_10 : decode cX6_expectWhole 10 = .ok (.getfield 51, 3) := by decide +kernel
theorem dX6_expectWhole_13 : decode cX6_expectWhole 13 = .ok (.iconst 2, 1) := by decide +kernel
theorem dX6_expectWhole_14 : decode cX6_expectWhole 14 = .ok (.if_icmp .eq 10, 3) := by decide +kernel
theorem dX6_expectWhole_17 : decode cX6_expectWhole 17 = .ok (.aload_n 0, 1) := by decide +kernel
theorem dX6_expectWhole_18 : decode cX6_expectWhole 18 = .ok (.iconst 1, 1) := by decide +kernel
theorem dX6_expectWhole_19 : decode cX6_expectWhole 19 = .ok (.invokevirtual 80, 3) := by decide +kernel
theorem dX6_expectWhole_22 : decode cX6_expectWhole 22 = .ok (.iload_n 1, 1) := by decide +kernel
theorem dX6_expectWhole_23 : decode cX6_expectWhole 23 = .ok (.ireturn, 1) := by decide +kernel
theorem dX6_expectWhole_24 : decode cX6_expectWhole 24 = .ok (.aload_n 0, 1) := by decide +kernel
theorem dX6_expectWhole_25 : decode cX6_expectWhole 25 = .ok (.getfield 61, 3) := by decide +kernel
theorem dX6_expectWhole_28 : decode cX6_expectWhole 28 = .ok (.iload_n 1, 1) := by decide +kernel
theorem dX6_expectWhole_29 : decode cX6_expectWhole 29 = .ok (.if_icmp .lt 11, 3) := by decide +kernel
theorem dX6_expectWhole_32 : decode cX6_expectWhole 32 = .ok (.aload_n 0, 1) := by decide +kernel
theorem dX6_expectWhole_33 : decode cX6_expectWhole 33 = .ok (.getfield 61, 3) := by decide +kernel
theorem dX6_expectWhole_36 : decode cX6_expectWhole 36 = .ok (.iload_n 2, 1) := by decide +kernel
theorem dX6_expectWhole_37 : decode cX6_expectWhole 37 = .ok (.if_icmp .le 10, 3) := by decide +kernel
theorem dX6_expectWhole_40 : decode cX6_expectWhole 40 = .ok (.aload_n 0, 1) := by decide +kernel
theorem dX6_expectWhole_41 : decode cX6_expectWhole 41 = .ok (.iconst 4, 1) := by decide +kernel
theorem dX6_expectWhole_42 : decode cX6_expectWhole 42 = .ok (.invokevirtual 80, 3) := by decide +kernel
theorem dX6_expectWhole_45 : decode cX6_expectWhole 45 = .ok (.iload_n 1, 1) := by decide +kernel
theorem dX6_expectWhole_46 : decode cX6_expectWhole 46 = .ok (.ireturn, 1) := by decide +kernel
theorem dX6_expectWhole_47 : decode cX6_expectWhole 47 = .ok (.aload_n 0, 1) := by decide +kernel
theorem dX6_expectWhole_48 : decode cX6_expectWhole 48 = .ok (.getfield 61, 3) := by decide +kernel
theorem dX6_expectWhole_51 : decode cX6_expectWhole 51 = .ok (.istore_n 3, 1) := by decide +kernel
theorem dX6_expectWhole_52 : decode cX6_expectWhole 52 = .ok (.aload_n 0, 1) := by decide +kernel
theorem dX6_expectWhole_53 : decode cX6_expectWhole 53 = .ok (.invokevirtual 48, 3) := by decide +kernel
theorem dX6_expectWhole_56 : decode cX6_expectWhole 56 = .ok (.iload_n 3, 1) := by decide +kernel
theorem dX6_expectWhole_57 : decode cX6_expectWhole 57 = .ok (.ireturn, 1) := by decide +kernel
theorem dX6_expectNewName_0 : decode cX6_expectNewName 0 = .ok (.aload_n 0, 1) := by decide +kernel
theorem dX6_expectNewName_1 : decode cX6_expectNewName 1 = .ok (.getfield 39, 3) := by decide +kernel
theorem dX6_expectNewName_4 : decode cX6_expectNewName 4 = .ok (.ifCond .eq 4, 3) := by decide +kernel
theorem dX6_expectNewName_7 : decode cX6_expectNewName 7 = .ok (.return_, 1) := by decide +kernel
theorem dX6_expectNewName_8 : decode cX6_expectNewName 8 = .ok (.aload_n 0, 1) := by decide +kernel
theorem dX6_expectNewName_9 : decode cX6_expectNewName 9 = .ok (.getfield 51, 3) := by decide +kernel
theorem dX6_expectNewName_12 : decode cX6_expectNewName 12 = .ok (.iconst 1, 1) := by decide +kernel
theorem dX6_expectNewName_13 : decode cX6_expectNewName 13 = .ok (.if_icmp .ne 11, 3) := by decide +kernel
theorem dX6_expectNewName_16 : decode cX6_expectNewName 16 = .ok (.aload_n 0, 1) := by decide +kernel
theorem dX6_expectNewName_17 : decode cX6_expectNewName 17 = .ok (.invokevirtual 88, 3) := by decide +kernel
theorem dX6_expectNewName_20 : decode cX6_expectNewName 20 = .ok (.iconst (-1), 1) := by decide +kernel
theorem dX6_expectNewName_21 : decode cX6_expectNewName 21 = .ok (.if_icmp .eq 11, 3) := by decide +kernel
theorem dX6_expectNewName_24 : decode cX6_expectNewName 24 = .ok (.aload_n 0, 1) := by decide +kernel
theorem dX6_expectNewName_25 : decode cX6_expectNewName 25 = .ok (.iconst 1, 1) := by decide +kernel
theorem dX6_expectNewName_26 : decode cX6_expectNewName 26 = .ok (.invokevirtual 80, 3) := by decide +kernel
theorem dX6_expectNewName_29 : decode cX6_expectNewName 29 = .ok (.goto 75, 3) := by decide +kernel
theorem dX6_expectNewName_32 : decode cX6_expectNewName 32 = .ok (.aload_n 0, 1) := by decide +kernel
theorem dX6_expectNewName_33 : decode cX6_expectNewName 33 = .ok (.invokevirtual 91, 3) := by decide +kernel
theorem dX6_expectNewName_36 : decode cX6_expectNewName 36 = .ok (.iconst (-1), 1) := by decide +kernel
theorem dX6_expectNewName_37 : decode cX6_expectNewName 37 = .ok (.if_icmp .ne 12, 3) := by decide +kernel
theorem dX6_expectNewName_40 : decode cX6_expectNewName 40 = .ok (.aload_n 0, 1) := by decide +kernel
theorem dX6_expectNewName_41 : decode cX6_expectNewName 41 = .ok (.getfield 45, 3) := by decide +kernel
theorem dX6_expectNewName_44 : decode cX6_expectNewName 44 = .ok (.bipush 16, 2) := by decide +kernel
theorem dX6_expectNewName_46 : decode cX6_expectNewName 46 = .ok (.if_icmp .lt 11, 3) := by decide +kernel
theorem dX6_expectNewName_49 : decode cX6_expectNewName 49 = .ok (.aload_n 0, 1) := by decide +kernel
theorem dX6_expectNewName_50 : decode cX6_expectNewName 50 = .ok (.iconst 3, 1) := by decide +kernel
theorem dX6_expectNewName_51 : decode cX6_expectNewName 51 = .ok (.invokevirtual 80, 3) := by decide +kernel
theorem dX6_expectNewName_54 : decode cX6_expectNewName 54 = .ok (.goto 50, 3) := by decide +kernel
theorem dX6_expectNewName_57 : decode cX6_expectNewName 57 = .ok (.aload_n 0, 1) := by decide +kernel
theorem dX6_expectNewName_58 : decode cX6_expectNewName 58 = .ok (.getfield 15, 3) := by decide +kernel
theorem dX6_expectNewName_61 : decode cX6_expectNewName 61 = .ok (.aload_n 0, 1) := by decide +kernel
theorem dX6_expectNewName_62 : decode cX6_expectNewName 62 = .ok (.getfield 45, 3) := by decide +kernel
theorem dX6_expectNewName_65 : decode cX6_expectNewName 65 = .ok (.aload_n 0, 1) := by decide +kernel
theorem dX6_expectNewName_66 : decode cX6_expectNewName 66 = .ok (.getfield 57, 3) := by decide +kernel
theorem dX6_expectNewName_69 : decode cX6_expectNewName 69 = .ok (.lastore, 1) := by decide +kernel
theorem dX6_expectNewName_70 : decode cX6_expectNewName 70 = .ok (.aload_n 0, 1) := by decide +kernel
theorem dX6_expectNewName_71 : decode cX6_expectNewName 71 = .ok (.getfield 19, 3) := by decide +kernel
theorem dX6_expectNewName_74 : decode cX6_expectNewName 74 = .ok (.aload_n 0, 1) := by decide +kernel
theorem dX6_expectNewName_75 : decode cX6_expectNewName 75 = .ok (.getfield 45, 3) := by decide +kernel
theorem dX6_expectNewName_78 : decode cX6_expectNewName 78 = .ok (.iload_n 1, 1) := by decide +kernel
theorem dX6_expectNewName_79 : decode cX6_expectNewName 79 = .ok (.iastore, 1) := by decide +kernel
theorem dX6_expectNewName_80 : decode cX6_expectNewName 80 = .ok (.aload_n 0, 1) := by decide +kernel
theorem dX6_expectNewName_81 : decode cX6_expectNewName 81 = .ok (.getfield 23, 3) := by decide +kernel
theorem dX6_expectNewName_84 : decode cX6_expectNewName 84 = .ok (.aload_n 0, 1) := by decide +kernel
theorem dX6_expectNewName_85 : decode cX6_expectNewName 85 = .ok (.getfield 45, 3) := by decide +kernel
theorem dX6_expectNewName_88 : decode cX6_expectNewName 88 = .ok (.iload_n 2, 1) := by decide +kernel
theorem dX6_expectNewName_89 : decode cX6_expectNewName 89 = .ok (.iastore, 1) := by decide +kernel
theorem dX6_expectNewName_90 : decode cX6_expectNewName 90 = .ok (.aload_n 0, 1) := by decide +kernel
theorem dX6_expectNewName_91 : decode cX6_expectNewName 91 = .ok (.dup, 1) := by decide +kernel
theorem dX6_expectNewName_92 : decode cX6_expectNewName 92 = .ok (.getfield 45, 3) := by decide +kernel
theorem dX6_expectNewName_95 : decode cX6_expectNewName 95 = .ok (.iconst 1, 1) := by decide +kernel
theorem dX6_expectNewName_96 : decode cX6_expectNewName 96 = .ok (.iadd, 1) := by decide +kernel
theorem dX6_expectNewName_97 : decode cX6_expectNewName 97 = .ok (.putfield 45, 3) := by decide +kernel
theorem dX6_expectNewName_100 : decode cX6_expectNewName 100 = .ok (.aload_n 0, 1) := by decide +kernel
theorem dX6_expectNewName_101 : decode cX6_expectNewName 101 = .ok (.invokevirtual 48, 3) := by decide +kernel
theorem dX6_expectNewName_104 : decode cX6_expectNewName 104 = .ok (.return_, 1) := by decide +kernel
theorem dX6_seeName_0 : decode cX6_seeName 0 = .ok (.aload_n 0, 1) := by decide +kernel
theorem dX6_seeName_1 : decode cX6_seeName 1 = .ok (.getfield 39, 3) := by decide +kernel
theorem dX6_seeName_4 : decode cX6_seeName 4 = .ok (.ifCond .eq 5, 3) := by decide +kernel
theorem dX6_seeName_7 : decode cX6_seeName 7 = .ok (.iconst 0, 1) := by decide +kernel
theorem dX6_seeName_8 : decode cX6_seeName 8 = .ok (.ireturn, 1) := by decide +kernel
theorem dX6_seeName_9 : decode cX6_seeName 9 = .ok (.aload_n 0, 1) := by decide +kernel
theorem dX6_seeName_10 : decode cX6_seeName 10 = .ok (.getfield 51, 3) := by decide +kernel
theorem dX6_seeName_13 : decode cX6_seeName 13 = .ok (.iconst 1, 1) := by decide +kernel
theorem dX6_seeName_14 : decode cX6_seeName 14 = .ok (.if_icmp .ne 11, 3) := by decide +kernel
theorem dX6_seeName_17 : decode cX6_seeName 17 = .ok (.aload_n 0, 1) := by decide +kernel
theorem dX6_seeName_18 : decode cX6_seeName 18 = .ok (.invokevirtual 88, 3) := by decide +kernel
theorem dX6_seeName_21 : decode cX6_seeName 21 = .ok (.iconst (-1), 1) := by decide +kernel
theorem dX6_seeName_22 : decode cX6_seeName 22 = .ok (.if_icmp .eq 10, 3) := by decide +kernel
theorem dX6_seeName_25 : decode cX6_seeName 25 = .ok (.aload_n 0, 1) := by decide +kernel
theorem dX6_seeName_26 : decode cX6_seeName 26 = .ok (.iconst 1, 1) := by decide +kernel
theorem dX6_seeName_27 : decode cX6_seeName 27 = .ok (.invokevirtual 80, 3) := by decide +kernel
theorem dX6_seeName_30 : decode cX6_seeName 30 = .ok (.iconst 0, 1) := by decide +kernel
theorem dX6_seeName_31 : decode cX6_seeName 31 = .ok (.ireturn, 1) := by decide +kernel
theorem dX6_seeName_32 : decode cX6_seeName 32 = .ok (.aload_n 0, 1) := by decide +kernel
theorem dX6_seeName_33 : decode cX6_seeName 33 = .ok (.invokevirtual 91, 3) := by decide +kernel
theorem dX6_seeName_36 : decode cX6_seeName 36 = .ok (.istore_n 2, 1) := by decide +kernel
theorem dX6_seeName_37 : decode cX6_seeName 37 = .ok (.iload_n 2, 1) := by decide +kernel
theorem dX6_seeName_38 : decode cX6_seeName 38 = .ok (.iconst (-1), 1) := by decide +kernel
theorem dX6_seeName_39 : decode cX6_seeName 39 = .ok (.if_icmp .eq 13, 3) := by decide +kernel
theorem dX6_seeName_42 : decode cX6_seeName 42 = .ok (.aload_n 0, 1) := by decide +kernel
theorem dX6_seeName_43 : decode cX6_seeName 43 = .ok (.getfield 19, 3) := by decide +kernel
theorem dX6_seeName_46 : decode cX6_seeName 46 = .ok (.iload_n 2, 1) := by decide +kernel
theorem dX6_seeName_47 : decode cX6_seeName 47 = .ok (.iaload, 1) := by decide +kernel
theorem dX6_seeName_48 : decode cX6_seeName 48 = .ok (.iload_n 1, 1) := by decide +kernel
theorem dX6_seeName_49 : decode cX6_seeName 49 = .ok (.if_icmp .eq 10, 3) := by decide +kernel
theorem dX6_seeName_52 : decode cX6_seeName 52 = .ok (.aload_n 0, 1) := by decide +kernel
theorem dX6_seeName_53 : decode cX6_seeName 53 = .ok (.iconst 2, 1) := by decide +kernel
theorem dX6_seeName_54 : decode cX6_seeName 54 = .ok (.invokevirtual 80, 3) := by decide +kernel
theorem dX6_seeName_57 : decode cX6_seeName 57 = .ok (.iconst 0, 1) := by decide +kernel
theorem dX6_seeName_58 : decode cX6_seeName 58 = .ok (.ireturn, 1) := by decide +kernel
theorem dX6_seeName_59 : decode cX6_seeName 59 = .ok (.aload_n 0, 1) := by decide +kernel
theorem dX6_seeName_60 : decode cX6_seeName 60 = .ok (.getfield 23, 3) := by decide +kernel
theorem dX6_seeName_63 : decode cX6_seeName 63 = .ok (.iload_n 2, 1) := by decide +kernel
theorem dX6_seeName_64 : decode cX6_seeName 64 = .ok (.iaload, 1) := by decide +kernel
theorem dX6_seeName_65 : decode cX6_seeName 65 = .ok (.ireturn, 1) := by decide +kernel
theorem dX6_expectName_0 : decode cX6_expectName 0 = .ok (.aload_n 0, 1) := by decide +kernel
theorem dX6_expectName_1 : decode cX6_expectName 1 = .ok (.iload_n 1, 1) := by decide +kernel
theorem dX6_expectName_2 : decode cX6_expectName 2 = .ok (.invokevirtual 94, 3) := by decide +kernel
theorem dX6_expectName_5 : decode cX6_expectName 5 = .ok (.istore_n 2, 1) := by decide +kernel
theorem dX6_expectName_6 : decode cX6_expectName 6 = .ok (.aload_n 0, 1) := by decide +kernel
theorem dX6_expectName_7 : decode cX6_expectName 7 = .ok (.getfield 39, 3) := by decide +kernel
theorem dX6_expectName_10 : decode cX6_expectName 10 = .ok (.ifCond .ne 7, 3) := by decide +kernel
theorem dX6_expectName_13 : decode cX6_expectName 13 = .ok (.aload_n 0, 1) := by decide +kernel
theorem dX6_expectName_14 : decode cX6_expectName 14 = .ok (.invokevirtual 48, 3) := by decide +kernel
theorem dX6_expectName_17 : decode cX6_expectName 17 = .ok (.iload_n 2, 1) := by decide +kernel
theorem dX6_expectName_18 : decode cX6_expectName 18 = .ok (.ireturn, 1) := by decide +kernel
theorem dX6_findName_0 : decode cX6_findName 0 = .ok (.iconst 0, 1) := by decide +kernel
theorem dX6_findName_1 : decode cX6_findName 1 = .ok (.istore_n 1, 1) := by decide +kernel
theorem dX6_findName_2 : decode cX6_findName 2 = .ok (.iload_n 1, 1) := by decide +kernel
theorem dX6_findName_3 : decode cX6_findName 3 = .ok (.aload_n 0, 1) := by decide +kernel
theorem dX6_findName_4 : decode cX6_findName 4 = .ok (.getfield 45, 3) := by decide +kernel
theorem dX6_findName_7 : decode cX6_findName 7 = .ok (.if_icmp .ge 31, 3) := by decide +kernel
theorem dX6_findName_10 : decode cX6_findName 10 = .ok (.iload_n 1, 1) := by decide +kernel
theorem dX6_findName_11 : decode cX6_findName 11 = .ok (.bipush 16, 2) := by decide +kernel
theorem dX6_findName_13 : decode cX6_findName 13 = .ok (.if_icmp .ge 25, 3) := by decide +kernel
theorem dX6_findName_16 : decode cX6_findName 16 = .ok (.aload_n 0, 1) := by decide +kernel
theorem dX6_findName_17 : decode cX6_findName 17 = .ok (.getfield 15, 3) := by decide +kernel
theorem dX6_findName_20 : decode cX6_findName 20 = .ok (.iload_n 1, 1) := by decide +kernel
theorem dX6_findName_21 : decode cX6_findName 21 = .ok (.laload, 1) := by decide +kernel
theorem dX6_findName_22 : decode cX6_findName 22 = .ok (.aload_n 0, 1) := by decide +kernel
theorem dX6_findName_23 : decode cX6_findName 23 = .ok (.getfield 57, 3) := by decide +kernel
theorem dX6_findName_26 : decode cX6_findName 26 = .ok (.lcmp, 1) := by decide +kernel
theorem dX6_findName_27 : decode cX6_findName 27 = .ok (.ifCond .ne 5, 3) := by decide +kernel
theorem dX6_findName_30 : decode cX6_findName 30 = .ok (.iload_n 1, 1) := by decide +kernel
theorem dX6_findName_31 : decode cX6_findName 31 = .ok (.ireturn, 1) := by decide +kernel
theorem dX6_findName_32 : decode cX6_findName 32 = .ok (.iinc 1 1, 3) := by decide +kernel
theorem dX6_findName_35 : decode cX6_findName 35 = .ok (.goto (-33), 3) := by decide +kernel
theorem dX6_findName_38 : decode cX6_findName 38 = .ok (.iconst (-1), 1) := by decide +kernel
theorem dX6_findName_39 : decode cX6_findName 39 = .ok (.ireturn, 1) := by decide +kernel
