theorem dX8_init_0 : decode cX8_init 0 = .ok (.aload_n 0, 1) := by decide +kernel
theorem dX8_init_1 : decode cX8_init 1 = .ok (.invokespecial 1, 3) := by decide +kernel
theorem dX8_init_4 : decode cX8_init 4 = .ok (.aload_n 0, 1) := by decide +kernel
theorem dX8_init_5 : decode cX8_init 5 = .ok (.bipush 10, 2) := by decide +kernel
theorem dX8_init_7 : decode cX8_init 7 = .ok (.newarray .int, 2) := by decide +kernel
theorem dX8_init_9 : decode cX8_init 9 = .ok (.putfield 7, 3) := by decide +kernel
theorem dX8_init_12 : decode cX8_init 12 = .ok (.aload_n 0, 1) := by decide +kernel
theorem dX8_init_13 : decode cX8_init 13 = .ok (.bipush 10, 2) := by decide +kernel
theorem dX8_init_15 : decode cX8_init 15 = .ok (.newarray .int, 2) := by decide +kernel
theorem dX8_init_17 : decode cX8_init 17 = .ok (.putfield 13, 3) := by decide +kernel
theorem dX8_init_20 : decode cX8_init 20 = .ok (.aload_n 0, 1) := by decide +kernel
theorem dX8_init_21 : decode cX8_init 21 = .ok (.bipush 10, 2) := by decide +kernel
theorem dX8_init_23 : decode cX8_init 23 = .ok (.newarray .boolean, 2) := by decide +kernel
theorem dX8_init_25 : decode cX8_init 25 = .ok (.putfield 16, 3) := by decide +kernel
theorem dX8_init_28 : decode cX8_init 28 = .ok (.aload_n 0, 1) := by decide +kernel
theorem dX8_init_29 : decode cX8_init 29 = .ok (.bipush 10, 2) := by decide +kernel
theorem dX8_init_31 : decode cX8_init 31 = .ok (.newarray .int, 2) := by decide +kernel
theorem dX8_init_33 : decode cX8_init 33 = .ok (.putfield 20, 3) := by decide +kernel
theorem dX8_init_36 : decode cX8_init 36 = .ok (.aload_n 0, 1) := by decide +kernel
theorem dX8_init_37 : decode cX8_init 37 = .ok (.bipush 10, 2) := by decide +kernel
theorem dX8_init_39 : decode cX8_init 39 = .ok (.newarray .int, 2) := by decide +kernel
theorem dX8_init_41 : decode cX8_init 41 = .ok (.putfield 23, 3) := by decide +kernel
theorem dX8_init_44 : decode cX8_init 44 = .ok (.aload_n 0, 1) := by decide +kernel
theorem dX8_init_45 : decode cX8_init 45 = .ok (.bipush 10, 2) := by decide +kernel
theorem dX8_init_47 : decode cX8_init 47 = .ok (.newarray .int, 2) := by decide +kernel
theorem dX8_init_49 : decode cX8_init 49 = .ok (.putfield 26, 3) := by decide +kernel
theorem dX8_init_52 : decode cX8_init 52 = .ok (.aload_n 0, 1) := by decide +kernel
theorem dX8_init_53 : decode cX8_init 53 = .ok (.bipush 10, 2) := by decide +kernel
theorem dX8_init_55 : decode cX8_init 55 = .ok (.newarray .int, 2) := by decide +kernel
theorem dX8_init_57 : decode cX8_init 57 = .ok (.putfield 29, 3) := by decide +kernel
theorem dX8_init_60 : decode cX8_init 60 = .ok (.aload_n 0, 1) := by decide +kernel
theorem dX8_init_61 : decode cX8_init 61 = .ok (.bipush 10, 2) := by decide +kernel
theorem dX8_init_63 : decode cX8_init 63 = .ok (.newarray .int, 2) := by decide +kernel
theorem dX8_init_65 : decode cX8_init 65 = .ok (.putfield 32, 3) := by decide +kernel
theorem dX8_init_68 : decode cX8_init 68 = .ok (.aload_n 0, 1) := by decide +kernel
theorem dX8_init_69 : decode cX8_init 69 = .ok (.sipush 150, 3) := by decide +kernel
theorem dX8_init_72 : decode cX8_init 72 = .ok (.newarray .int, 2) := by decide +kernel
theorem dX8_init_74 : decode cX8_init 74 = .ok (.putfield 35, 3) := by decide +kernel
theorem dX8_init_77 : decode cX8_init 77 = .ok (.aload_n 0, 1) := by decide +kernel
theorem dX8_init_78 : decode cX8_init 78 = .ok (.sipush 150, 3) := by decide +kernel
theorem dX8_init_81 : decode cX8_init 81 = .ok (.newarray .int, 2) := by decide +kernel
theorem dX8_init_83 : decode cX8_init 83 = .ok (.putfield 38, 3) := by decide +kernel
theorem dX8_init_86 : decode cX8_init 86 = .ok (.aload_n 0, 1) := by decide +kernel
theorem dX8_init_87 : decode cX8_init 87 = .ok (.sipush 150, 3) := by decide +kernel
theorem dX8_init_90 : decode cX8_init 90 = .ok (.newarray .char, 2) := by decide +kernel
theorem dX8_init_92 : decode cX8_init 92 = .ok (.putfield 41, 3) := by decide +kernel
theorem dX8_init_95 : decode cX8_init 95 = .ok (.aload_n 0, 1) := by decide +kernel
theorem dX8_init_96 : decode cX8_init 96 = .ok (.sipush 150, 3) := by decide +kernel
theorem dX8_init_99 : decode cX8_init 99 = .ok (.newarray .int, 2) := by decide +kernel
theorem dX8_init_101 : decode cX8_init 101 = .ok (.putfield 45, 3) := by decide +kernel
theorem dX8_init_104 : decode cX8_init 104 = .ok (.aload_n 0, 1) := by decide +kernel
theorem dX8_init_105 : decode cX8_init 105 = .ok (.sipush 150, 3) := by decide +kernel
theorem dX8_init_108 : decode cX8_init 108 = .ok (.newarray .char, 2) := by decide +kernel
theorem dX8_init_110 : decode cX8_init 110 = .ok (.putfield 48, 3) := by decide +kernel
theorem dX8_init_113 : decode cX8_init 113 = .ok (.aload_n 0, 1) := by decide +kernel
theorem dX8_init_114 : decode cX8_init 114 = .ok (.sipush 150, 3) := by decide +kernel
theorem dX8_init_117 : decode cX8_init 117 = .ok (.newarray .int, 2) := by decide +kernel
theorem dX8_init_119 : decode cX8_init 119 = .ok (.putfield 51, 3) := by decide +kernel
theorem dX8_init_122 : decode cX8_init 122 = .ok (.aload_n 0, 1) := by decide +kernel
theorem dX8_init_123 : decode cX8_init 123 = .ok (.sipush 150, 3) := by decide +kernel
theorem dX8_init_126 : decode cX8_init 126 = .ok (.newarray .int, 2) := by decide +kernel
theorem dX8_init_128 : decode cX8_init 128 = .ok (.putfield 54, 3) := by decide +kernel
theorem dX8_init_131 : decode cX8_init 131 = .ok (.aload_n 0, 1) := by decide +kernel
theorem dX8_init_132 : decode cX8_init 132 = .ok (.sipush 150, 3) := by decide +kernel
theorem dX8_init_135 : decode cX8_init 135 = .ok (.newarray .int, 2) := by decide +kernel
theorem dX8_init_137 : decode cX8_init 137 = .ok (.putfield 57, 3) := by decide +kernel
theorem dX8_init_140 : decode cX8_init 140 = .ok (.aload_n 0, 1) := by decide +kernel
theorem dX8_init_141 : decode cX8_init 141 = .ok (.sipush 150, 3) := by decide +kernel
theorem dX8_init_144 : decode cX8_init 144 = .ok (.newarray .int, 2) := by decide +kernel
theorem dX8_init_146 : decode cX8_init 146 = .ok (.putfield 60, 3) := by decide +kernel
theorem dX8_init_149 : decode cX8_init 149 = .ok (.aload_n 0, 1) := by decide +kernel
theorem dX8_init_150 : decode cX8_init 150 = .ok (.sipush 150, 3) := by decide +kernel
theorem dX8_init_153 : decode cX8_init 153 = .ok (.newarray .int, 2) := by decide +kernel
theorem dX8_init_155 : decode cX8_init 155 = .ok (.putfield 63, 3) := by decide +kernel
theorem dX8_init_158 : decode cX8_init 158 = .ok (.aload_n 0, 1) := by decide +kernel
theorem dX8_init_159 : decode cX8_init 159 = .ok (.iconst 3, 1) := by decide +kernel
theorem dX8_init_160 : decode cX8_init 160 = .ok (.newarray .int, 2) := by decide +kernel
theorem dX8_init_162 : decode cX8_init 162 = .ok (.putfield 66, 3) := by decide +kernel
theorem dX8_init_165 : decode cX8_init 165 = .ok (.aload_n 0, 1) := by decide +kernel
theorem dX8_init_166 : decode cX8_init 166 = .ok (.bipush 60, 2) := by decide +kernel
theorem dX8_init_168 : decode cX8_init 168 = .ok (.newarray .int, 2) := by decide +kernel
theorem dX8_init_170 : decode cX8_init 170 = .ok (.putfield 69, 3) := by decide +kernel
theorem dX8_init_173 : decode cX8_init 173 = .ok (.aload_n 0, 1) := by decide +kernel
theorem dX8_init_174 : decode cX8_init 174 = .ok (.bipush 60, 2) := by decide +kernel
theorem dX8_init_176 : decode cX8_init 176 = .ok (.newarray .char, 2) := by decide +kernel
theorem dX8_init_178 : decode cX8_init 178 = .ok (.putfield 72, 3) := by decide +kernel
theorem dX8_init_181 : decode cX8_init 181 = .ok (.aload_n 0, 1) := by decide +kernel
theorem dX8_init_182 : decode cX8_init 182 = .ok (.bipush 60, 2) := by decide +kernel
theorem dX8_init_184 : decode cX8_init 184 = .ok (.newarray .int, 2) := by decide +kernel
theorem dX8_init_186 : decode cX8_init 186 = .ok (.putfield 75, 3) := by decide +kernel
theorem dX8_init_189 : decode cX8_init 189 = .ok (.return_, 1) := by decide +kernel
theorem dX8_thrown_0 : decode cX8_thrown 0 = .ok (.aload_n 0, 1) := by decide +kernel
theorem dX8_thrown_1 : decode cX8_thrown 1 = .ok (.getfield 78, 3) := by decide +kernel
theorem dX8_thrown_4 : decode cX8_thrown 4 = .ok (.ireturn, 1) := by decide +kernel
theorem dX8_fails_0 : decode cX8_fails 0 = .ok (.aload_n 0, 1) := by decide +kernel
theorem dX8_fails_1 : decode cX8_fails 1 = .ok (.iload_n 1, 1) := by decide +kernel
theorem dX8_fails_2 : decode cX8_fails 2 = .ok (.putfield 78, 3) := by decide +kernel
theorem dX8_fails_5 : decode cX8_fails 5 = .ok (.iload_n 1, 1) := by decide +kernel
theorem dX8_fails_6 : decode cX8_fails 6 = .ok (.ifCond .le 7, 3) := by decide +kernel
theorem dX8_fails_9 : decode cX8_fails 9 = .ok (.iconst 1, 1) := by decide +kernel
theorem dX8_fails_10 : decode cX8_fails 10 = .ok (.goto 4, 3) := by decide +kernel
theorem dX8_fails_13 : decode cX8_fails 13 = .ok (.iconst 0, 1) := by decide +kernel
theorem dX8_fails_14 : decode cX8_fails 14 = .ok (.ireturn, 1) := by decide +kernel
theorem dX8_tells_0 : decode cX8_tells 0 = .ok (.aload_n 0, 1) := by decide +kernel
theorem dX8_tells_1 : decode cX8_tells 1 = .ok (.iconst 0, 1) := by decide +kernel
theorem dX8_tells_2 : decode cX8_tells 2 = .ok (.putfield 78, 3) := by decide +kernel
theorem dX8_tells_5 : decode cX8_tells 5 = .ok (.iload_n 1, 1) := by decide +kernel
theorem dX8_tells_6 : decode cX8_tells 6 = .ok (.ireturn, 1) := by decide +kernel
theorem dX8_in_0 : decode cX8_in 0 = .ok (.iload_n 0, 1) := by decide +kernel
theorem dX8_in_1 : decode cX8_in 1 = .ok (.iload_n 1, 1) := by decide +kernel
theorem dX8_in_2 : decode cX8_in 2 = .ok (.if_icmp .lt 12, 3) := by decide +kernel
theorem dX8_in_5 : decode cX8_in 5 = .ok (.iload_n 0, 1) := by decide +kernel
theorem dX8_in_6 : decode cX8_in 6 = .ok (.iload_n 2, 1) := by decide +kernel
theorem dX8_in_7 : decode cX8_in 7 = .ok (.if_icmp .gt 7, 3) := by decide +kernel
theorem dX8_in_10 : decode cX8_in 10 = .ok (.iconst 1, 1) := by decide +kernel
theorem dX8_in_11 : decode cX8_in 11 = .ok (.goto 4, 3) := by decide +kernel
theorem dX8_in_14 : decode cX8_in 14 = .ok (.iconst 0, 1) := by decide +kernel
theorem dX8_in_15 : decode cX8_in 15 = .ok (.ireturn, 1) := by decide +kernel
theorem dX8_logs_0 : decode cX8_logs 0 = .ok (.aload_n 0, 1) := by decide +kernel
theorem dX8_logs_1 : decode cX8_logs 1 = .ok (.getfield 82, 3) := by decide +kernel
theorem dX8_logs_4 : decode cX8_logs 4 = .ok (.bipush 60, 2) := by decide +kernel
theorem dX8_logs_6 : decode cX8_logs 6 = .ok (.irem, 1) := by decide +kernel
theorem dX8_logs_7 : decode cX8_logs 7 = .ok (.istore_n 3, 1) := by decide +kernel
theorem dX8_logs_8 : decode cX8_logs 8 = .ok (.aload_n 0, 1) := by decide +kernel
theorem dX8_logs_9 : decode cX8_logs 9 = .ok (.getfield 69, 3) := by decide +kernel
theorem dX8_logs_12 : decode cX8_logs 12 = .ok (.iload_n 3, 1) := by decide +kernel
theorem dX8_logs_13 : decode cX8_logs 13 = .ok (.aload_n 0, 1) := by decide +kernel
theorem dX8_logs_14 : decode cX8_logs 14 = .ok (.getfield 85, 3) := by decide +kernel
theorem dX8_logs_17 : decode cX8_logs 17 = .ok (.iastore, 1) := by decide +kernel
theorem dX8_logs_18 : decode cX8_logs 18 = .ok (.aload_n 0, 1) := by decide +kernel
theorem dX8_logs_19 : decode cX8_logs 19 = .ok (.getfield 72, 3) := by decide +kernel
theorem dX8_logs_22 : decode cX8_logs 22 = .ok (.iload_n 3, 1) := by decide +kernel
theorem dX8_logs_23 : decode cX8_logs 23 = .ok (.iload_n 1, 1) := by decide +kernel
theorem dX8_logs_24 : decode cX8_logs 24 = .ok (.castore, 1) := by decide +kernel
theorem dX8_logs_25 : decode cX8_logs 25 = .ok (.aload_n 0, 1) := by decide +kernel
theorem dX8_logs_26 : decode cX8_logs 26 = .ok (.getfield 75, 3) := by decide +kernel
theorem dX8_logs_29 : decode cX8_logs 29 = .ok (.iload_n 3, 1) := by decide +kernel
theorem dX8_logs_30 : decode cX8_logs 30 = .ok (.iload_n 2, 1) := by decide +kernel
theorem dX8_logs_31 : decode cX8_logs 31 = .ok (.iastore, 1) := by decide +kernel
theorem dX8_logs_32 : decode cX8_logs 32 = .ok (.aload_n 0, 1) := by decide +kernel
theorem dX8_logs_33 : decode cX8_logs 33 = .ok (.dup, 1) := by decide +kernel
theorem dX8_logs_34 : decode cX8_logs 34 = .ok (.getfield 82, 3) := by decide +kernel
theorem dX8_logs_37 : decode cX8_logs 37 = .ok (.iconst 1, 1) := by decide +kernel
theorem dX8_logs_38 : decode cX8_logs 38 = .ok (.iadd, 1) := by decide +kernel
theorem dX8_logs_39 : decode cX8_logs 39 = .ok (.putfield 82, 3) := by decide +kernel
theorem dX8_logs_42 : decode cX8_logs 42 = .ok (.return_, 1) := by decide +kernel
theorem dX8_isNone_0 : decode cX8_isNone 0 = .ok (.iload_n 1, 1) := by decide +kernel
theorem dX8_isNone_1 : decode cX8_isNone 1 = .ok (.iconst 0, 1) := by decide +kernel
theorem dX8_isNone_2 : decode cX8_isNone 2 = .ok (.aload_n 0, 1) := by decide +kernel
theorem dX8_isNone_3 : decode cX8_isNone 3 = .ok (.getfield 88, 3) := by decide +kernel
theorem dX8_isNone_6 : decode cX8_isNone 6 = .ok (.iconst 1, 1) := by decide +kernel
theorem dX8_isNone_7 : decode cX8_isNone 7 = .ok (.isub, 1) := by decide +kernel
theorem dX8_isNone_8 : decode cX8_isNone 8 = .ok (.invokestatic 91, 3) := by decide +kernel
theorem dX8_isNone_11 : decode cX8_isNone 11 = .ok (.ifCond .ne 7, 3) := by decide +kernel
theorem dX8_isNone_14 : decode cX8_isNone 14 = .ok (.iconst 1, 1) := by decide +kernel
theorem dX8_isNone_15 : decode cX8_isNone 15 = .ok (.goto 4, 3) := by decide +kernel
theorem dX8_isNone_18 : decode cX8_isNone 18 = .ok (.iconst 0, 1) := by decide +kernel
theorem dX8_isNone_19 : decode cX8_isNone 19 = .ok (.ireturn, 1) := by decide +kernel
theorem dX8_isFar_0 : decode cX8_isFar 0 = .ok (.aload_n 0, 1) := by decide +kernel
theorem dX8_isFar_1 : decode cX8_isFar 1 = .ok (.getfield 7, 3) := by decide +kernel
theorem dX8_isFar_4 : decode cX8_isFar 4 = .ok (.iload_n 1, 1) := by decide +kernel
theorem dX8_isFar_5 : decode cX8_isFar 5 = .ok (.iaload, 1) := by decide +kernel
theorem dX8_isFar_6 : decode cX8_isFar 6 = .ok (.aload_n 0, 1) := by decide +kernel
theorem dX8_isFar_7 : decode cX8_isFar 7 = .ok (.getfield 7, 3) := by decide +kernel
theorem dX8_isFar_10 : decode cX8_isFar 10 = .ok (.iload_n 2, 1) := by decide +kernel
theorem dX8_isFar_11 : decode cX8_isFar 11 = .ok (.iaload, 1) := by decide +kernel
theorem dX8_isFar_12 : decode cX8_isFar 12 = .ok (.if_icmp .ge 19, 3) := by decide +kernel
theorem dX8_isFar_15 : decode cX8_isFar 15 = .ok (.aload_n 0, 1) := by decide +kernel
theorem dX8_isFar_16 : decode cX8_isFar 16 = .ok (.getfield 7, 3) := by decide +kernel
theorem dX8_isFar_19 : decode cX8_isFar 19 = .ok (.iload_n 2, 1) := by decide +kernel
theorem dX8_isFar_20 : decode cX8_isFar 20 = .ok (.iaload, 1) := by decide +kernel
theorem dX8_isFar_21 : decode cX8_isFar 21 = .ok (.aload_n 0, 1) := by decide +kernel
theorem dX8_isFar_22 : decode cX8_isFar 22 = .ok (.getfield 7, 3) := by decide +kernel
theorem dX8_isFar_25 : decode cX8_isFar 25 = .ok (.iload_n 1, 1) := by decide +kernel
theorem dX8_isFar_26 : decode cX8_isFar 26 = .ok (.iaload, 1) := by decide +kernel
theorem dX8_isFar_27 : decode cX8_isFar 27 = .ok (.isub, 1) := by decide +kernel
theorem dX8_isFar_28 : decode cX8_isFar 28 = .ok (.goto 16, 3) := by decide +kernel
theorem dX8_isFar_31 : decode cX8_isFar 31 = .ok (.aload_n 0, 1) := by decide +kernel
theorem dX8_isFar_32 : decode cX8_isFar 32 = .ok (.getfield 7, 3) := by decide +kernel
theorem dX8_isFar_35 : decode cX8_isFar 35 = .ok (.iload_n 1, 1) := by decide +kernel
theorem dX8_isFar_36 : decode cX8_isFar 36 = .ok (.iaload, 1) := by decide +kernel
theorem dX8_isFar_37 : decode cX8_isFar 37 = .ok (.aload_n 0, 1) := by decide +kernel
theorem dX8_isFar_38 : decode cX8_isFar 38 = .ok (.getfield 7, 3) := by decide +kernel
theorem dX8_isFar_41 : decode cX8_isFar 41 = .ok (.iload_n 2, 1) := by decide +kernel
theorem dX8_isFar_42 : decode cX8_isFar 42 = .ok (.iaload, 1) := by decide +kernel
theorem dX8_isFar_43 : decode cX8_isFar 43 = .ok (.isub, 1) := by decide +kernel
theorem dX8_isFar_44 : decode cX8_isFar 44 = .ok (.istore_n 3, 1) := by decide +kernel
theorem dX8_isFar_45 : decode cX8_isFar 45 = .ok (.iload_n 3, 1) := by decide +kernel
theorem dX8_isFar_46 : decode cX8_isFar 46 = .ok (.aload_n 0, 1) := by decide +kernel
theorem dX8_isFar_47 : decode cX8_isFar 47 = .ok (.getfield 13, 3) := by decide +kernel
theorem dX8_isFar_50 : decode cX8_isFar 50 = .ok (.iload_n 1, 1) := by decide +kernel
theorem dX8_isFar_51 : decode cX8_isFar 51 = .ok (.iaload, 1) := by decide +kernel
theorem dX8_isFar_52 : decode cX8_isFar 52 = .ok (.if_icmp .gt 13, 3) := by decide +kernel
theorem dX8_isFar_55 : decode cX8_isFar 55 = .ok (.iload_n 3, 1) := by decide +kernel
theorem dX8_isFar_56 : decode cX8_isFar 56 = .ok (.aload_n 0, 1) := by decide +kernel
theorem dX8_isFar_57 : decode cX8_isFar 57 = .ok (.getfield 13, 3) := by decide +kernel
theorem dX8_isFar_60 : decode cX8_isFar 60 = .ok (.iload_n 2, 1) := by decide +kernel
theorem dX8_isFar_61 : decode cX8_isFar 61 = .ok (.iaload, 1) := by decide +kernel
theorem dX8_isFar_62 : decode cX8_isFar 62 = .ok (.if_icmp .le 7, 3) := by decide +kernel
theorem dX8_isFar_65 : decode cX8_isFar 65 = .ok (.iconst 1, 1) := by decide +kernel
theorem dX8_isFar_66 : decode cX8_isFar 66 = .ok (.goto 4, 3) := by decide +kernel
theorem dX8_isFar_69 : decode cX8_isFar 69 = .ok (.iconst 0, 1) := by decide +kernel
theorem dX8_isFar_70 : decode cX8_isFar 70 = .ok (.ireturn, 1) := by decide +kernel
theorem dX8_isHeard_0 : decode cX8_isHeard 0 = .ok (.iload_n 1, 1) := by decide +kernel
theorem dX8_isHeard_1 : decode cX8_isHeard 1 = .ok (.iload_n 2, 1) := by decide +kernel
theorem dX8_isHeard_2 : decode cX8_isHeard 2 = .ok (.if_icmp .eq 34, 3) := by decide +kernel
theorem dX8_isHeard_5 : decode cX8_isHeard 5 = .ok (.aload_n 0, 1) := by decide +kernel
theorem dX8_isHeard_6 : decode cX8_isHeard 6 = .ok (.getfield 16, 3) := by decide +kernel
theorem dX8_isHeard_9 : decode cX8_isHeard 9 = .ok (.iload_n 1, 1) := by decide +kernel
theorem dX8_isHeard_10 : decode cX8_isHeard 10 = .ok (.baload, 1) := by decide +kernel
theorem dX8_isHeard_11 : decode cX8_isHeard 11 = .ok (.ifCond .ne 25, 3) := by decide +kernel
theorem dX8_isHeard_14 : decode cX8_isHeard 14 = .ok (.aload_n 0, 1) := by decide +kernel
theorem dX8_isHeard_15 : decode cX8_isHeard 15 = .ok (.getfield 16, 3) := by decide +kernel
theorem dX8_isHeard_18 : decode cX8_isHeard 18 = .ok (.iload_n 2, 1) := by decide +kernel
theorem dX8_isHeard_19 : decode cX8_isHeard 19 = .ok (.baload, 1) := by decide +kernel
theorem dX8_isHeard_20 : decode cX8_isHeard 20 = .ok (.ifCond .ne 16, 3) := by decide +kernel
theorem dX8_isHeard_23 : decode cX8_isHeard 23 = .ok (.aload_n 0, 1) := by decide +kernel
theorem dX8_isHeard_24 : decode cX8_isHeard 24 = .ok (.iload_n 1, 1) := by decide +kernel
theorem dX8_isHeard_25 : decode cX8_isHeard 25 = .ok (.iload_n 2, 1) := by decide +kernel
theorem dX8_isHeard_26 : decode cX8_isHeard 26 = .ok (.invokevirtual 95, 3) := by decide +kernel
theorem dX8_isHeard_29 : decode cX8_isHeard 29 = .ok (.ifCond .ne 7, 3) := by decide +kernel
theorem dX8_isHeard_32 : decode cX8_isHeard 32 = .ok (.iconst 1, 1) := by decide +kernel
theorem dX8_isHeard_33 : decode cX8_isHeard 33 = .ok (.goto 4, 3) := by decide +kernel
theorem dX8_isHeard_36 : decode cX8_isHeard 36 = .ok (.iconst 0, 1) := by decide +kernel
theorem dX8_isHeard_37 : decode cX8_isHeard 37 = .ok (.ireturn, 1) := by decide +kernel
theorem dX8_counts_0 : decode cX8_counts 0 = .ok (.iconst 0, 1) := by decide +kernel
theorem dX8_counts_1 : decode cX8_counts 1 = .ok (.istore_n 2, 1) := by decide +kernel
theorem dX8_counts_2 : decode cX8_counts 2 = .ok (.iload_n 2, 1) := by decide +kernel
theorem dX8_counts_3 : decode cX8_counts 3 = .ok (.aload_n 0, 1) := by decide +kernel
theorem dX8_counts_4 : decode cX8_counts 4 = .ok (.getfield 88, 3) := by decide +kernel
theorem dX8_counts_7 : decode cX8_counts 7 = .ok (.if_icmp .ge 26, 3) := by decide +kernel
theorem dX8_counts_10 : decode cX8_counts 10 = .ok (.aload_n 0, 1) := by decide +kernel
theorem dX8_counts_11 : decode cX8_counts 11 = .ok (.getfield 29, 3) := by decide +kernel
theorem dX8_counts_14 : decode cX8_counts 14 = .ok (.iload_n 2, 1) := by decide +kernel
theorem dX8_counts_15 : decode cX8_counts 15 = .ok (.iload_n 2, 1) := by decide +kernel
theorem dX8_counts_16 : decode cX8_counts 16 = .ok (.iload_n 1, 1) := by decide +kernel
theorem dX8_counts_17 : decode cX8_counts 17 = .ok (.if_icmp .ne 7, 3) := by decide +kernel
theorem dX8_counts_20 : decode cX8_counts 20 = .ok (.iconst 0, 1) := by decide +kernel
theorem dX8_counts_21 : decode cX8_counts 21 = .ok (.goto 5, 3) := by decide +kernel
theorem dX8_counts_24 : decode cX8_counts 24 = .ok (.bipush 99, 2) := by decide +kernel
theorem dX8_counts_26 : decode cX8_counts 26 = .ok (.iastore, 1) := by decide +kernel
theorem dX8_counts_27 : decode cX8_counts 27 = .ok (.iinc 2 1, 3) := by decide +kernel
theorem dX8_counts_30 : decode cX8_counts 30 = .ok (.goto (-28), 3) := by decide +kernel
theorem dX8_counts_33 : decode cX8_counts 33 = .ok (.iconst 1, 1) := by decide +kernel
theorem dX8_counts_34 : decode cX8_counts 34 = .ok (.istore_n 2, 1) := by decide +kernel
theorem dX8_counts_35 : decode cX8_counts 35 = .ok (.iload_n 2, 1) := by decide +kernel
theorem dX8_counts_36 : decode cX8_counts 36 = .ok (.aload_n 0, 1) := by decide +kernel
theorem dX8_counts_37 : decode cX8_counts 37 = .ok (.getfield 88, 3) := by decide +kernel
theorem dX8_counts_40 : decode cX8_counts 40 = .ok (.if_icmp .ge 86, 3) := by decide +kernel
theorem dX8_counts_43 : decode cX8_counts 43 = .ok (.iconst 0, 1) := by decide +kernel
theorem dX8_counts_44 : decode cX8_counts 44 = .ok (.istore_n 3, 1) := by decide +kernel
theorem dX8_counts_45 : decode cX8_counts 45 = .ok (.iload_n 3, 1) := by decide +kernel
theorem dX8_counts_46 : decode cX8_counts 46 = .ok (.aload_n 0, 1) := by decide +kernel
theorem dX8_counts_47 : decode cX8_counts 47 = .ok (.getfield 88, 3) := by decide +kernel
theorem dX8_counts_50 : decode cX8_counts 50 = .ok (.if_icmp .ge 70, 3) := by decide +kernel
theorem dX8_counts_53 : decode cX8_counts 53 = .ok (.iconst 0, 1) := by decide +kernel
theorem dX8_counts_54 : decode cX8_counts 54 = .ok (.istore 4, 2) := by decide +kernel
theorem dX8_counts_56 : decode cX8_counts 56 = .ok (.iload 4, 2) := by decide +kernel
theorem dX8_counts_58 : decode cX8_counts 58 = .ok (.aload_n 0, 1) := by decide +kernel
theorem dX8_counts_59 : decode cX8_counts 59 = .ok (.getfield 88, 3) := by decide +kernel
theorem dX8_counts_62 : decode cX8_counts 62 = .ok (.if_icmp .ge 52, 3) := by decide +kernel
theorem dX8_counts_65 : decode cX8_counts 65 = .ok (.aload_n 0, 1) := by decide +kernel
theorem dX8_counts_66 : decode cX8_counts 66 = .ok (.iload_n 3, 1) := by decide +kernel
theorem dX8_counts_67 : decode cX8_counts 67 = .ok (.iload 4, 2) := by decide +kernel
theorem dX8_counts_69 : decode cX8_counts 69 = .ok (.invokevirtual 99, 3) := by decide +kernel
theorem dX8_counts_72 : decode cX8_counts 72 = .ok (.ifCond .eq 36, 3) := by decide +kernel
theorem dX8_counts_75 : decode cX8_counts 75 = .ok (.aload_n 0, 1) := by decide +kernel
theorem dX8_counts_76 : decode cX8_counts 76 = .ok (.getfield 29, 3) := by decide +kernel
theorem dX8_counts_79 : decode cX8_counts 79 = .ok (.iload 4, 2) := by decide +kernel
theorem dX8_counts_81 : decode cX8_counts 81 = .ok (.iaload, 1) := by decide +kernel
theorem dX8_counts_82 : decode cX8_counts 82 = .ok (.iconst 1, 1) := by decide +kernel
theorem dX8_counts_83 : decode cX8_counts 83 = .ok (.iadd, 1) := by decide +kernel
theorem dX8_counts_84 : decode cX8_counts 84 = .ok (.aload_n 0, 1) := by decide +kernel
theorem dX8_counts_85 : decode cX8_counts 85 = .ok (.getfield 29, 3) := by decide +kernel
theorem dX8_counts_88 : decode cX8_counts 88 = .ok (.iload_n 3, 1) := by decide +kernel
theorem dX8_counts_89 : decode cX8_counts 89 = .ok (.iaload, 1) := by decide +kernel
theorem dX8_counts_90 : decode cX8_counts 90 = .ok (.if_icmp .ge 18, 3) := by decide +kernel
theorem dX8_counts_93 : decode cX8_counts 93 = .ok (.aload_n 0, 1) := by decide +kernel
theorem dX8_counts_94 : decode cX8_counts 94 = .ok (.getfield 29, 3) := by decide +kernel
theorem dX8_counts_97 : decode cX8_counts 97 = .ok (.iload_n 3, 1) := by decide +kernel
theorem dX8_counts_98 : decode cX8_counts 98 = .ok (.aload_n 0, 1) := by decide +kernel
theorem dX8_counts_99 : decode cX8_counts 99 = .ok (.getfield 29, 3) := by decide +kernel
theorem dX8_counts_102 : decode cX8_counts 102 = .ok (.iload 4, 2) := by decide +kernel
theorem dX8_counts_104 : decode cX8_counts 104 = .ok (.iaload, 1) := by decide +kernel
theorem dX8_counts_105 : decode cX8_counts 105 = .ok (.iconst 1, 1) := by decide +kernel
theorem dX8_counts_106 : decode cX8_counts 106 = .ok (.iadd, 1) := by decide +kernel
theorem dX8_counts_107 : decode cX8_counts 107 = .ok (.iastore, 1) := by decide +kernel
theorem dX8_counts_108 : decode cX8_counts 108 = .ok (.iinc 4 1, 3) := by decide +kernel
theorem dX8_counts_111 : decode cX8_counts 111 = .ok (.goto (-55), 3) := by decide +kernel
theorem dX8_counts_114 : decode cX8_counts 114 = .ok (.iinc 3 1, 3) := by decide +kernel
theorem dX8_counts_117 : decode cX8_counts 117 = .ok (.goto (-72), 3) := by decide +kernel
theorem dX8_counts_120 : decode cX8_counts 120 = .ok (.iinc 2 1, 3) := by decide +kernel
theorem dX8_counts_123 : decode cX8_counts 123 = .ok (.goto (-88), 3) := by decide +kernel
theorem dX8_counts_126 : decode cX8_counts 126 = .ok (.return_, 1) := by decide +kernel
theorem dX8_finds_0 : decode cX8_finds 0 = .ok (.aload_n 0, 1) := by decide +kernel
theorem dX8_finds_1 : decode cX8_finds 1 = .ok (.iload_n 2, 1) := by decide +kernel
theorem dX8_finds_2 : decode cX8_finds 2 = .ok (.invokevirtual 102, 3) := by decide +kernel
theorem dX8_finds_5 : decode cX8_finds 5 = .ok (.aload_n 0, 1) := by decide +kernel
theorem dX8_finds_6 : decode cX8_finds 6 = .ok (.getfield 29, 3) := by decide +kernel
theorem dX8_finds_9 : decode cX8_finds 9 = .ok (.iload_n 1, 1) := by decide +kernel
theorem dX8_finds_10 : decode cX8_finds 10 = .ok (.iaload, 1) := by decide +kernel
theorem dX8_finds_11 : decode cX8_finds 11 = .ok (.bipush 99, 2) := by decide +kernel
theorem dX8_finds_13 : decode cX8_finds 13 = .ok (.if_icmp .ne 5, 3) := by decide +kernel
theorem dX8_finds_16 : decode cX8_finds 16 = .ok (.iconst 0, 1) := by decide +kernel
theorem dX8_finds_17 : decode cX8_finds 17 = .ok (.ireturn, 1) := by decide +kernel
theorem dX8_finds_18 : decode cX8_finds 18 = .ok (.aload_n 0, 1) := by decide +kernel
theorem dX8_finds_19 : decode cX8_finds 19 = .ok (.iconst 0, 1) := by decide +kernel
theorem dX8_finds_20 : decode cX8_finds 20 = .ok (.putfield 106, 3) := by decide +kernel
theorem dX8_finds_23 : decode cX8_finds 23 = .ok (.iload_n 1, 1) := by decide +kernel
theorem dX8_finds_24 : decode cX8_finds 24 = .ok (.istore_n 3, 1) := by decide +kernel
theorem dX8_finds_25 : decode cX8_finds 25 = .ok (.iload_n 3, 1) := by decide +kernel
theorem dX8_finds_26 : decode cX8_finds 26 = .ok (.iload_n 2, 1) := by decide +kernel
theorem dX8_finds_27 : decode cX8_finds 27 = .ok (.if_icmp .eq 32, 3) := by decide +kernel
theorem dX8_finds_30 : decode cX8_finds 30 = .ok (.aload_n 0, 1) := by decide +kernel
theorem dX8_finds_31 : decode cX8_finds 31 = .ok (.getfield 32, 3) := by decide +kernel
theorem dX8_finds_34 : decode cX8_finds 34 = .ok (.aload_n 0, 1) := by decide +kernel
theorem dX8_finds_35 : decode cX8_finds 35 = .ok (.getfield 106, 3) := by decide +kernel
theorem dX8_finds_38 : decode cX8_finds 38 = .ok (.iload_n 3, 1) := by decide +kernel
theorem dX8_finds_39 : decode cX8_finds 39 = .ok (.iastore, 1) := by decide +kernel
theorem dX8_finds_40 : decode cX8_finds 40 = .ok (.aload_n 0, 1) := by decide +kernel
theorem dX8_finds_41 : decode cX8_finds 41 = .ok (.dup, 1) := by decide +kernel
theorem dX8_finds_42 : decode cX8_finds 42 = .ok (.getfield 106, 3) := by decide +kernel
theorem dX8_finds_45 : decode cX8_finds 45 = .ok (.iconst 1, 1) := by decide +kernel
theorem dX8_finds_46 : decode cX8_finds 46 = .ok (.iadd, 1) := by decide +kernel
theorem dX8_finds_47 : decode cX8_finds 47 = .ok (.putfield 106, 3) := by decide +kernel
theorem dX8_finds_50 : decode cX8_finds 50 = .ok (.aload_n 0, 1) := by decide +kernel
theorem dX8_finds_51 : decode cX8_finds 51 = .ok (.iload_n 3, 1) := by decide +kernel
theorem dX8_finds_52 : decode cX8_finds 52 = .ok (.invokevirtual 109, 3) := by decide +kernel
theorem dX8_finds_55 : decode cX8_finds 55 = .ok (.istore_n 3, 1) := by decide +kernel
theorem dX8_finds_56 : decode cX8_finds 56 = .ok (.goto (-31), 3) := by decide +kernel
theorem dX8_finds_59 : decode cX8_finds 59 = .ok (.aload_n 0, 1) := by decide +kernel
theorem dX8_finds_60 : decode cX8_finds 60 = .ok (.getfield 32, 3) := by decide +kernel
theorem dX8_finds_63 : decode cX8_finds 63 = .ok (.aload_n 0, 1) := by decide +kernel
theorem dX8_finds_64 : decode cX8_finds 64 = .ok (.getfield 106, 3) := by decide +kernel
theorem dX8_finds_67 : decode cX8_finds 67 = .ok (.iload_n 2, 1) := by decide +kernel
theorem dX8_finds_68 : decode cX8_finds 68 = .ok (.iastore, 1) := by decide +kernel
theorem dX8_finds_69 : decode cX8_finds 69 = .ok (.aload_n 0, 1) := by decide +kernel
theorem dX8_finds_70 : decode cX8_finds 70 = .ok (.dup, 1) := by decide +kernel
theorem dX8_finds_71 : decode cX8_finds 71 = .ok (.getfield 106, 3) := by decide +kernel
theorem dX8_finds_74 : decode cX8_finds 74 = .ok (.iconst 1, 1) := by decide +kernel
theorem dX8_finds_75 : decode cX8_finds 75 = .ok (.iadd, 1) := by decide +kernel
theorem dX8_finds_76 : decode cX8_finds 76 = .ok (.putfield 106, 3) := by decide +kernel
theorem dX8_finds_79 : decode cX8_finds 79 = .ok (.iconst 1, 1) := by decide +kernel
theorem dX8_finds_80 : decode cX8_finds 80 = .ok (.ireturn, 1) := by decide +kernel
theorem dX8_closer_0 : decode cX8_closer 0 = .ok (.iconst 0, 1) := by decide +kernel
theorem dX8_closer_1 : decode cX8_closer 1 = .ok (.istore_n 2, 1) := by decide +kernel
theorem dX8_closer_2 : decode cX8_closer 2 = .ok (.iload_n 2, 1) := by decide +kernel
theorem dX8_closer_3 : decode cX8_closer 3 = .ok (.aload_n 0, 1) := by decide +kernel
theorem dX8_closer_4 : decode cX8_closer 4 = .ok (.getfield 88, 3) := by decide +kernel
theorem dX8_closer_7 : decode cX8_closer 7 = .ok (.if_icmp .ge 37, 3) := by decide +kernel
theorem dX8_closer_10 : decode cX8_closer 10 = .ok (.aload_n 0, 1) := by decide +kernel
theorem dX8_closer_11 : decode cX8_closer 11 = .ok (.iload_n 1, 1) := by decide +kernel
theorem dX8_closer_12 : decode cX8_closer 12 = .ok (.iload_n 2, 1) := by decide +kernel
theorem dX8_closer_13 : decode cX8_closer 13 = .ok (.invokevirtual 99, 3) := by decide +kernel
theorem dX8_closer_16 : decode cX8_closer 16 = .ok (.ifCond .eq 22, 3) := by decide +kernel
theorem dX8_closer_19 : decode cX8_closer 19 = .ok (.aload_n 0, 1) := by decide +kernel
theorem dX8_closer_20 : decode cX8_closer 20 = .ok (.getfield 29, 3) := by decide +kernel
theorem dX8_closer_23 : decode cX8_closer 23 = .ok (.iload_n 2, 1) := by decide +kernel
theorem dX8_closer_24 : decode cX8_closer 24 = .ok (.iaload, 1) := by decide +kernel
theorem dX8_closer_25 : decode cX8_closer 25 = .ok (.aload_n 0, 1) := by decide +kernel
theorem dX8_closer_26 : decode cX8_closer 26 = .ok (.getfield 29, 3) := by decide +kernel
theorem dX8_closer_29 : decode cX8_closer 29 = .ok (.iload_n 1, 1) := by decide +kernel
theorem dX8_closer_30 : decode cX8_closer 30 = .ok (.iaload, 1) := by decide +kernel
theorem dX8_closer_31 : decode cX8_closer 31 = .ok (.iconst 1, 1) := by decide +kernel
theorem dX8_closer_32 : decode cX8_closer 32 = .ok (.isub, 1) := by decide +kernel
theorem dX8_closer_33 : decode cX8_closer 33 = .ok (.if_icmp .ne 5, 3) := by decide +kernel
theorem dX8_closer_36 : decode cX8_closer 36 = .ok (.iload_n 2, 1) := by decide +kernel
theorem dX8_closer_37 : decode cX8_closer 37 = .ok (.ireturn, 1) := by decide +kernel
theorem dX8_closer_38 : decode cX8_closer 38 = .ok (.iinc 2 1, 3) := by decide +kernel
theorem dX8_closer_41 : decode cX8_closer 41 = .ok (.goto (-39), 3) := by decide +kernel
theorem dX8_closer_44 : decode cX8_closer 44 = .ok (.iconst (-1), 1) := by decide +kernel
theorem dX8_closer_45 : decode cX8_closer 45 = .ok (.ireturn, 1) := by decide +kernel
theorem dX8_bits_0 : decode cX8_bits 0 = .ok (.iconst 0, 1) := by decide +kernel
theorem dX8_bits_1 : decode cX8_bits 1 = .ok (.istore_n 1, 1) := by decide +kernel
theorem dX8_bits_2 : decode cX8_bits 2 = .ok (.iconst 0, 1) := by decide +kernel
theorem dX8_bits_3 : decode cX8_bits 3 = .ok (.istore_n 2, 1) := by decide +kernel
theorem dX8_bits_4 : decode cX8_bits 4 = .ok (.iload_n 2, 1) := by decide +kernel
theorem dX8_bits_5 : decode cX8_bits 5 = .ok (.aload_n 0, 1) := by decide +kernel
theorem dX8_bits_6 : decode cX8_bits 6 = .ok (.getfield 106, 3) := by decide +kernel
theorem dX8_bits_9 : decode cX8_bits 9 = .ok (.if_icmp .ge 20, 3) := by decide +kernel
theorem dX8_bits_12 : decode cX8_bits 12 = .ok (.iload_n 1, 1) := by decide +kernel
theorem dX8_bits_13 : decode cX8_bits 13 = .ok (.iconst 1, 1) := by decide +kernel
theorem dX8_bits_14 : decode cX8_bits 14 = .ok (.aload_n 0, 1) := by decide +kernel
theorem dX8_bits_15 : decode cX8_bits 15 = .ok (.getfield 32, 3) := by decide +kernel
theorem dX8_bits_18 : decode cX8_bits 18 = .ok (.iload_n 2, 1) := by decide +kernel
theorem dX8_bits_19 : decode cX8_bits 19 = .ok (.iaload, 1) := by decide +kernel
theorem dX8_bits_20 : decode cX8_bits 20 = .ok (.ishl, 1) := by decide +kernel
theorem dX8_bits_21 : decode cX8_bits 21 = .ok (.ior, 1) := by decide +kernel
theorem dX8_bits_22 : decode cX8_bits 22 = .ok (.istore_n 1, 1) := by decide +kernel
theorem dX8_bits_23 : decode cX8_bits 23 = .ok (.iinc 2 1, 3) := by decide +kernel
theorem dX8_bits_26 : decode cX8_bits 26 = .ok (.goto (-22), 3) := by decide +kernel
theorem dX8_bits_29 : decode cX8_bits 29 = .ok (.iload_n 1, 1) := by decide +kernel
theorem dX8_bits_30 : decode cX8_bits 30 = .ok (.ireturn, 1) := by decide +kernel
theorem dX8_addStation_0 : decode cX8_addStation 0 = .ok (.aload_n 0, 1) := by decide +kernel
theorem dX8_addStation_1 : decode cX8_addStation 1 = .ok (.iload_n 1, 1) := by decide +kernel
theorem dX8_addStation_2 : decode cX8_addStation 2 = .ok (.iconst 0, 1) := by decide +kernel
theorem dX8_addStation_3 : decode cX8_addStation 3 = .ok (.sipush 300, 3) := by decide +kernel
theorem dX8_addStation_6 : decode cX8_addStation 6 = .ok (.invokestatic 91, 3) := by decide +kernel
theorem dX8_addStation_9 : decode cX8_addStation 9 = .ok (.ifCond .eq 13, 3) := by decide +kernel
theorem dX8_addStation_12 : decode cX8_addStation 12 = .ok (.iload_n 2, 1) := by decide +kernel
theorem dX8_addStation_13 : decode cX8_addStation 13 = .ok (.iconst 1, 1) := by decide +kernel
theorem dX8_addStation_14 : decode cX8_addStation 14 = .ok (.bipush 100, 2) := by decide +kernel
theorem dX8_addStation_16 : decode cX8_addStation 16 = .ok (.invokestatic 91, 3) := by decide +kernel
theorem dX8_addStation_19 : decode cX8_addStation 19 = .ok (.ifCond .ne 7, 3) := by decide +kernel
theorem dX8_addStation_22 : decode cX8_addStation 22 = .ok (.iconst 1, 1) := by decide +kernel
theorem dX8_addStation_23 : decode cX8_addStation 23 = .ok (.goto 17, 3) := by decide +kernel
theorem dX8_addStation_26 : decode cX8_addStation 26 = .ok (.aload_n 0, 1) := by decide +kernel
theorem dX8_addStation_27 : decode cX8_addStation 27 = .ok (.getfield 88, 3) := by decide +kernel
theorem dX8_addStation_30 : decode cX8_addStation 30 = .ok (.bipush 10, 2) := by decide +kernel
theorem dX8_addStation_32 : decode cX8_addStation 32 = .ok (.if_icmp .ne 7, 3) := by decide +kernel
theorem dX8_addStation_35 : decode cX8_addStation 35 = .ok (.iconst 2, 1) := by decide +kernel
theorem dX8_addStation_36 : decode cX8_addStation 36 = .ok (.goto 4, 3) := by decide +kernel
theorem dX8_addStation_39 : decode cX8_addStation 39 = .ok (.iconst 0, 1) := by decide +kernel
theorem dX8_addStation_40 : decode cX8_addStation 40 = .ok (.invokevirtual 113, 3) := by decide +kernel
theorem dX8_addStation_43 : decode cX8_addStation 43 = .ok (.ifCond .eq 5, 3) := by decide +kernel
theorem dX8_addStation_46 : decode cX8_addStation 46 = .ok (.iconst 0, 1) := by decide +kernel
theorem dX8_addStation_47 : decode cX8_addStation 47 = .ok (.ireturn, 1) := by decide +kernel
theorem dX8_addStation_48 : decode cX8_addStation 48 = .ok (.aload_n 0, 1) := by decide +kernel
theorem dX8_addStation_49 : decode cX8_addStation 49 = .ok (.getfield 7, 3) := by decide +kernel
theorem dX8_addStation_52 : decode cX8_addStation 52 = .ok (.aload_n 0, 1) := by decide +kernel
theorem dX8_addStation_53 : decode cX8_addStation 53 = .ok (.getfield 88, 3) := by decide +kernel
theorem dX8_addStation_56 : decode cX8_addStation 56 = .ok (.iload_n 1, 1) := by decide +kernel
theorem dX8_addStation_57 : decode cX8_addStation 57 = .ok (.iastore, 1) := by decide +kernel
theorem dX8_addStation_58 : decode cX8_addStation 58 = .ok (.aload_n 0, 1) := by decide +kernel
theorem dX8_addStation_59 : decode cX8_addStation 59 = .ok (.getfield 13, 3) := by decide +kernel
theorem dX8_addStation_62 : decode cX8_addStation 62 = .ok (.aload_n 0, 1) := by decide +kernel
theorem dX8_addStation_63 : decode cX8_addStation 63 = .ok (.getfield 88, 3) := by decide +kernel
theorem dX8_addStation_66 : decode cX8_addStation 66 = .ok (.iload_n 2, 1) := by decide +kernel
theorem dX8_addStation_67 : decode cX8_addStation 67 = .ok (.iastore, 1) := by decide +kernel
theorem dX8_addStation_68 : decode cX8_addStation 68 = .ok (.aload_n 0, 1) := by decide +kernel
theorem dX8_addStation_69 : decode cX8_addStation 69 = .ok (.dup, 1) := by decide +kernel
theorem dX8_addStation_70 : decode cX8_addStation 70 = .ok (.getfield 88, 3) := by decide +kernel
theorem dX8_addStation_73 : decode cX8_addStation 73 = .ok (.iconst 1, 1) := by decide +kernel
theorem dX8_addStation_74 : decode cX8_addStation 74 = .ok (.iadd, 1) := by decide +kernel
theorem dX8_addStation_75 : decode cX8_addStation 75 = .ok (.putfield 88, 3) := by decide +kernel
theorem dX8_addStation_78 : decode cX8_addStation 78 = .ok (.aload_n 0, 1) := by decide +kernel
theorem dX8_addStation_79 : decode cX8_addStation 79 = .ok (.invokevirtual 117, 3) := by decide +kernel
theorem dX8_addStation_82 : decode cX8_addStation 82 = .ok (.aload_n 0, 1) := by decide +kernel
theorem dX8_addStation_83 : decode cX8_addStation 83 = .ok (.getfield 88, 3) := by decide +kernel
theorem dX8_addStation_86 : decode cX8_addStation 86 = .ok (.iconst 1, 1) := by decide +kernel
theorem dX8_addStation_87 : decode cX8_addStation 87 = .ok (.isub, 1) := by decide +kernel
theorem dX8_addStation_88 : decode cX8_addStation 88 = .ok (.ireturn, 1) := by decide +kernel
theorem dX8_move_0 : decode cX8_move 0 = .ok (.aload_n 0, 1) := by decide +kernel
theorem dX8_move_1 : decode cX8_move 1 = .ok (.aload_n 0, 1) := by decide +kernel
theorem dX8_move_2 : decode cX8_move 2 = .ok (.iload_n 1, 1) := by decide +kernel
theorem dX8_move_3 : decode cX8_move 3 = .ok (.invokevirtual 120, 3) := by decide +kernel
theorem dX8_move_6 : decode cX8_move 6 = .ok (.ifCond .eq 7, 3) := by decide +kernel
theorem dX8_move_9 : decode cX8_move 9 = .ok (.iconst 1, 1) := by decide +kernel
theorem dX8_move_10 : decode cX8_move 10 = .ok (.goto 19, 3) := by decide +kernel
theorem dX8_move_13 : decode cX8_move 13 = .ok (.iload_n 2, 1) := by decide +kernel
theorem dX8_move_14 : decode cX8_move 14 = .ok (.iconst 0, 1) := by decide +kernel
theorem dX8_move_15 : decode cX8_move 15 = .ok (.sipush 300, 3) := by decide +kernel
theorem dX8_move_18 : decode cX8_move 18 = .ok (.invokestatic 91, 3) := by decide +kernel
theorem dX8_move_21 : decode cX8_move 21 = .ok (.ifCond .eq 7, 3) := by decide +kernel
theorem dX8_move_24 : decode cX8_move 24 = .ok (.iconst 0, 1) := by decide +kernel
theorem dX8_move_25 : decode cX8_move 25 = .ok (.goto 4, 3) := by decide +kernel
theorem dX8_move_28 : decode cX8_move 28 = .ok (.iconst 2, 1) := by decide +kernel
theorem dX8_move_29 : decode cX8_move 29 = .ok (.invokevirtual 113, 3) := by decide +kernel
theorem dX8_move_32 : decode cX8_move 32 = .ok (.ifCond .eq 5, 3) := by decide +kernel
theorem dX8_move_35 : decode cX8_move 35 = .ok (.iconst 0, 1) := by decide +kernel
theorem dX8_move_36 : decode cX8_move 36 = .ok (.ireturn, 1) := by decide +kernel
theorem dX8_move_37 : decode cX8_move 37 = .ok (.aload_n 0, 1) := by decide +kernel
theorem dX8_move_38 : decode cX8_move 38 = .ok (.getfield 7, 3) := by decide +kernel
theorem dX8_move_41 : decode cX8_move 41 = .ok (.iload_n 1, 1) := by decide +kernel
theorem dX8_move_42 : decode cX8_move 42 = .ok (.iaload, 1) := by decide +kernel
theorem dX8_move_43 : decode cX8_move 43 = .ok (.istore_n 3, 1) := by decide +kernel
theorem dX8_move_44 : decode cX8_move 44 = .ok (.aload_n 0, 1) := by decide +kernel
theorem dX8_move_45 : decode cX8_move 45 = .ok (.getfield 7, 3) := by decide +kernel
theorem dX8_move_48 : decode cX8_move 48 = .ok (.iload_n 1, 1) := by decide +kernel
theorem dX8_move_49 : decode cX8_move 49 = .ok (.iload_n 2, 1) := by decide +kernel
theorem dX8_move_50 : decode cX8_move 50 = .ok (.iastore, 1) := by decide +kernel
theorem dX8_move_51 : decode cX8_move 51 = .ok (.aload_n 0, 1) := by decide +kernel
theorem dX8_move_52 : decode cX8_move 52 = .ok (.invokevirtual 117, 3) := by decide +kernel
theorem dX8_move_55 : decode cX8_move 55 = .ok (.iload_n 3, 1) := by decide +kernel
theorem dX8_move_56 : decode cX8_move 56 = .ok (.ireturn, 1) := by decide +kernel
theorem dX8_setOn_0 : decode cX8_setOn 0 = .ok (.aload_n 0, 1) := by decide +kernel
theorem dX8_setOn_1 : decode cX8_setOn 1 = .ok (.aload_n 0, 1) := by decide +kernel
theorem dX8_setOn_2 : decode cX8_setOn 2 = .ok (.iload_n 1, 1) := by decide +kernel
theorem dX8_setOn_3 : decode cX8_setOn 3 = .ok (.invokevirtual 120, 3) := by decide +kernel
theorem dX8_setOn_6 : decode cX8_setOn 6 = .ok (.ifCond .eq 7, 3) := by decide +kernel
theorem dX8_setOn_9 : decode cX8_setOn 9 = .ok (.iconst 1, 1) := by decide +kernel
theorem dX8_setOn_10 : decode cX8_setOn 10 = .ok (.goto 4, 3) := by decide +kernel
theorem dX8_setOn_13 : decode cX8_setOn 13 = .ok (.iconst 0, 1) := by decide +kernel
theorem dX8_setOn_14 : decode cX8_setOn 14 = .ok (.invokevirtual 113, 3) := by decide +kernel
theorem dX8_setOn_17 : decode cX8_setOn 17 = .ok (.ifCond .eq 5, 3) := by decide +kernel
theorem dX8_setOn_20 : decode cX8_setOn 20 = .ok (.iconst 0, 1) := by decide +kernel
theorem dX8_setOn_21 : decode cX8_setOn 21 = .ok (.ireturn, 1) := by decide +kernel
theorem dX8_setOn_22 : decode cX8_setOn 22 = .ok (.aload_n 0, 1) := by decide +kernel
theorem dX8_setOn_23 : decode cX8_setOn 23 = .ok (.getfield 16, 3) := by decide +kernel
theorem dX8_setOn_26 : decode cX8_setOn 26 = .ok (.iload_n 1, 1) := by decide +kernel
theorem dX8_setOn_27 : decode cX8_setOn 27 = .ok (.baload, 1) := by decide +kernel
theorem dX8_setOn_28 : decode cX8_setOn 28 = .ok (.ifCond .ne 7, 3) := by decide +kernel
theorem dX8_setOn_31 : decode cX8_setOn 31 = .ok (.iconst 1, 1) := by decide +kernel
theorem dX8_setOn_32 : decode cX8_setOn 32 = .ok (.goto 4, 3) := by decide +kernel
theorem dX8_setOn_35 : decode cX8_setOn 35 = .ok (.iconst 0, 1) := by decide +kernel
theorem dX8_setOn_36 : decode cX8_setOn 36 = .ok (.istore_n 3, 1) := by decide +kernel
theorem dX8_setOn_37 : decode cX8_setOn 37 = .ok (.aload_n 0, 1) := by decide +kernel
theorem dX8_setOn_38 : decode cX8_setOn 38 = .ok (.getfield 16, 3) := by decide +kernel
theorem dX8_setOn_41 : decode cX8_setOn 41 = .ok (.iload_n 1, 1) := by decide +kernel
theorem dX8_setOn_42 : decode cX8_setOn 42 = .ok (.iload_n 2, 1) := by decide +kernel
theorem dX8_setOn_43 : decode cX8_setOn 43 = .ok (.ifCond .ne 7, 3) := by decide +kernel
theorem dX8_setOn_46 : decode cX8_setOn 46 = .ok (.iconst 1, 1) := by decide +kernel
theorem dX8_setOn_47 : decode cX8_setOn 47 = .ok (.goto 4, 3) := by decide +kernel
theorem dX8_setOn_50 : decode cX8_setOn 50 = .ok (.iconst 0, 1) := by decide +kernel
theorem dX8_setOn_51 : decode cX8_setOn 51 = .ok (.bastore, 1) := by decide +kernel
theorem dX8_setOn_52 : decode cX8_setOn 52 = .ok (.iload_n 2, 1) := by decide +kernel
theorem dX8_setOn_53 : decode cX8_setOn 53 = .ok (.ifCond .ne 20, 3) := by decide +kernel
theorem dX8_setOn_56 : decode cX8_setOn 56 = .ok (.aload_n 0, 1) := by decide +kernel
theorem dX8_setOn_57 : decode cX8_setOn 57 = .ok (.iload_n 1, 1) := by decide +kernel
theorem dX8_setOn_58 : decode cX8_setOn 58 = .ok (.invokevirtual 123, 3) := by decide +kernel
theorem dX8_setOn_61 : decode cX8_setOn 61 = .ok (.ifCond .lt 12, 3) := by decide +kernel
theorem dX8_setOn_64 : decode cX8_setOn 64 = .ok (.aload_n 0, 1) := by decide +kernel
theorem dX8_setOn_65 : decode cX8_setOn 65 = .ok (.aload_n 0, 1) := by decide +kernel
theorem dX8_setOn_66 : decode cX8_setOn 66 = .ok (.iload_n 1, 1) := by decide +kernel
theorem dX8_setOn_67 : decode cX8_setOn 67 = .ok (.invokevirtual 123, 3) := by decide +kernel
theorem dX8_setOn_70 : decode cX8_setOn 70 = .ok (.invokevirtual 126, 3) := by decide +kernel
theorem dX8_setOn_73 : decode cX8_setOn 73 = .ok (.aload_n 0, 1) := by decide +kernel
theorem dX8_setOn_74 : decode cX8_setOn 74 = .ok (.invokevirtual 117, 3) := by decide +kernel
theorem dX8_setOn_77 : decode cX8_setOn 77 = .ok (.iload_n 3, 1) := by decide +kernel
theorem dX8_setOn_78 : decode cX8_setOn 78 = .ok (.ireturn, 1) := by decide +kernel
theorem dX8_stations_0 : decode cX8_stations 0 = .ok (.aload_n 0, 1) := by decide +kernel
theorem dX8_stations_1 : decode cX8_stations 1 = .ok (.aload_n 0, 1) := by decide +kernel
theorem dX8_stations_2 : decode cX8_stations 2 = .ok (.getfield 88, 3) := by decide +kernel
theorem dX8_stations_5 : decode cX8_stations 5 = .ok (.invokevirtual 129, 3) := by decide +kernel
theorem dX8_stations_8 : decode cX8_stations 8 = .ok (.ireturn, 1) := by decide +kernel
theorem dX8_placeOf_0 : decode cX8_placeOf 0 = .ok (.aload_n 0, 1) := by decide +kernel
theorem dX8_placeOf_1 : decode cX8_placeOf 1 = .ok (.aload_n 0, 1) := by decide +kernel
theorem dX8_placeOf_2 : decode cX8_placeOf 2 = .ok (.iload_n 1, 1) := by decide +kernel
theorem dX8_placeOf_3 : decode cX8_placeOf 3 = .ok (.invokevirtual 120, 3) := by decide +kernel
theorem dX8_placeOf_6 : decode cX8_placeOf 6 = .ok (.ifCond .eq 7, 3) := by decide +kernel
theorem dX8_placeOf_9 : decode cX8_placeOf 9 = .ok (.iconst 1, 1) := by decide +kernel
theorem dX8_placeOf_10 : decode cX8_placeOf 10 = .ok (.goto 4, 3) := by decide +kernel
theorem dX8_placeOf_13 : decode cX8_placeOf 13 = .ok (.iconst 0, 1) := by decide +kernel
theorem dX8_placeOf_14 : decode cX8_placeOf 14 = .ok (.invokevirtual 113, 3) := by decide +kernel
theorem dX8_placeOf_17 : decode cX8_placeOf 17 = .ok (.ifCond .eq 7, 3) := by decide +kernel
theorem dX8_placeOf_20 : decode cX8_placeOf 20 = .ok (.iconst 0, 1) := by decide +kernel
theorem dX8_placeOf_21 : decode cX8_placeOf 21 = .ok (.goto 9, 3) := by decide +kernel
theorem dX8_placeOf_24 : decode cX8_placeOf 24 = .ok (.aload_n 0, 1) := by decide +kernel
theorem dX8_placeOf_25 : decode cX8_placeOf 25 = .ok (.getfield 7, 3) := by decide +kernel
theorem dX8_placeOf_28 : decode cX8_placeOf 28 = .ok (.iload_n 1, 1) := by decide +kernel
theorem dX8_placeOf_29 : decode cX8_placeOf 29 = .ok (.iaload, 1) := by decide +kernel
theorem dX8_placeOf_30 : decode cX8_placeOf 30 = .ok (.ireturn, 1) := by decide +kernel
theorem dX8_isOn_0 : decode cX8_isOn 0 = .ok (.aload_n 0, 1) := by decide +kernel
theorem dX8_isOn_1 : decode cX8_isOn 1 = .ok (.aload_n 0, 1) := by decide +kernel
theorem dX8_isOn_2 : decode cX8_isOn 2 = .ok (.iload_n 1, 1) := by decide +kernel
theorem dX8_isOn_3 : decode cX8_isOn 3 = .ok (.invokevirtual 120, 3) := by decide +kernel
theorem dX8_isOn_6 : decode cX8_isOn 6 = .ok (.ifCond .eq 7, 3) := by decide +kernel
theorem dX8_isOn_9 : decode cX8_isOn 9 = .ok (.iconst 1, 1) := by decide +kernel
theorem dX8_isOn_10 : decode cX8_isOn 10 = .ok (.goto 4, 3) := by decide +kernel
theorem dX8_isOn_13 : decode cX8_isOn 13 = .ok (.iconst 0, 1) := by decide +kernel
theorem dX8_isOn_14 : decode cX8_isOn 14 = .ok (.invokevirtual 113, 3) := by decide +kernel
theorem dX8_isOn_17 : decode cX8_isOn 17 = .ok (.ifCond .ne 16, 3) := by decide +kernel
theorem dX8_isOn_20 : decode cX8_isOn 20 = .ok (.aload_n 0, 1) := by decide +kernel
theorem dX8_isOn_21 : decode cX8_isOn 21 = .ok (.getfield 16, 3) := by decide +kernel
theorem dX8_isOn_24 : decode cX8_isOn 24 = .ok (.iload_n 1, 1) := by decide +kernel
theorem dX8_isOn_25 : decode cX8_isOn 25 = .ok (.baload, 1) := by decide +kernel
theorem dX8_isOn_26 : decode cX8_isOn 26 = .ok (.ifCond .ne 7, 3) := by decide +kernel
theorem dX8_isOn_29 : decode cX8_isOn 29 = .ok (.iconst 1, 1) := by decide +kernel
theorem dX8_isOn_30 : decode cX8_isOn 30 = .ok (.goto 4, 3) := by decide +kernel
theorem dX8_isOn_33 : decode cX8_isOn 33 = .ok (.iconst 0, 1) := by decide +kernel
theorem dX8_isOn_34 : decode cX8_isOn 34 = .ok (.ireturn, 1) := by decide +kernel
theorem dX8_areNoTwo_0 : decode cX8_areNoTwo 0 = .ok (.aload_n 0, 1) := by decide +kernel
theorem dX8_areNoTwo_1 : decode cX8_areNoTwo 1 = .ok (.aload_n 0, 1) := by decide +kernel
theorem dX8_areNoTwo_2 : decode cX8_areNoTwo 2 = .ok (.iload_n 1, 1) := by decide +kernel
theorem dX8_areNoTwo_3 : decode cX8_areNoTwo 3 = .ok (.invokevirtual 120, 3) := by decide +kernel
theorem dX8_areNoTwo_6 : decode cX8_areNoTwo 6 = .ok (.ifCond .ne 11, 3) := by decide +kernel
theorem dX8_areNoTwo_9 : decode cX8_areNoTwo 9 = .ok (.aload_n 0, 1) := by decide +kernel
theorem dX8_areNoTwo_10 : decode cX8_areNoTwo 10 = .ok (.iload_n 2, 1) := by decide +kernel
theorem dX8_areNoTwo_11 : decode cX8_areNoTwo 11 = .ok (.invokevirtual 120, 3) := by decide +kernel
theorem dX8_areNoTwo_14 : decode cX8_areNoTwo 14 = .ok (.ifCond .eq 7, 3) := by decide +kernel
theorem dX8_areNoTwo_17 : decode cX8_areNoTwo 17 = .ok (.iconst 1, 1) := by decide +kernel
theorem dX8_areNoTwo_18 : decode cX8_areNoTwo 18 = .ok (.goto 13, 3) := by decide +kernel
theorem dX8_areNoTwo_21 : decode cX8_areNoTwo 21 = .ok (.iload_n 1, 1) := by decide +kernel
theorem dX8_areNoTwo_22 : decode cX8_areNoTwo 22 = .ok (.iload_n 2, 1) := by decide +kernel
theorem dX8_areNoTwo_23 : decode cX8_areNoTwo 23 = .ok (.if_icmp .ne 7, 3) := by decide +kernel
theorem dX8_areNoTwo_26 : decode cX8_areNoTwo 26 = .ok (.iconst 2, 1) := by decide +kernel
theorem dX8_areNoTwo_27 : decode cX8_areNoTwo 27 = .ok (.goto 4, 3) := by decide +kernel
theorem dX8_areNoTwo_30 : decode cX8_areNoTwo 30 = .ok (.iconst 0, 1) := by decide +kernel
theorem dX8_areNoTwo_31 : decode cX8_areNoTwo 31 = .ok (.invokevirtual 113, 3) := by decide +kernel
theorem dX8_areNoTwo_34 : decode cX8_areNoTwo 34 = .ok (.ireturn, 1) := by decide +kernel
theorem dX8_hears_0 : decode cX8_hears 0 = .ok (.aload_n 0, 1) := by decide +kernel
theorem dX8_hears_1 : decode cX8_hears 1 = .ok (.iload_n 1, 1) := by decide +kernel
theorem dX8_hears_2 : decode cX8_hears 2 = .ok (.iload_n 2, 1) := by decide +kernel
theorem dX8_hears_3 : decode cX8_hears 3 = .ok (.invokevirtual 132, 3) := by decide +kernel
theorem dX8_hears_6 : decode cX8_hears 6 = .ok (.ifCond .ne 16, 3) := by decide +kernel
theorem dX8_hears_9 : decode cX8_hears 9 = .ok (.aload_n 0, 1) := by decide +kernel
theorem dX8_hears_10 : decode cX8_hears 10 = .ok (.iload_n 1, 1) := by decide +kernel
theorem dX8_hears_11 : decode cX8_hears 11 = .ok (.iload_n 2, 1) := by decide +kernel
theorem dX8_hears_12 : decode cX8_hears 12 = .ok (.invokevirtual 99, 3) := by decide +kernel
theorem dX8_hears_15 : decode cX8_hears 15 = .ok (.ifCond .eq 7, 3) := by decide +kernel
theorem dX8_hears_18 : decode cX8_hears 18 = .ok (.iconst 1, 1) := by decide +kernel
theorem dX8_hears_19 : decode cX8_hears 19 = .ok (.goto 4, 3) := by decide +kernel
theorem dX8_hears_22 : decode cX8_hears 22 = .ok (.iconst 0, 1) := by decide +kernel
theorem dX8_hears_23 : decode cX8_hears 23 = .ok (.ireturn, 1) := by decide +kernel
theorem dX8_busy_0 : decode cX8_busy 0 = .ok (.iconst 0, 1) := by decide +kernel
theorem dX8_busy_1 : decode cX8_busy 1 = .ok (.istore_n 2, 1) := by decide +kernel
theorem dX8_busy_2 : decode cX8_busy 2 = .ok (.iload_n 2, 1) := by decide +kernel
theorem dX8_busy_3 : decode cX8_busy 3 = .ok (.aload_n 0, 1) := by decide +kernel
theorem dX8_busy_4 : decode cX8_busy 4 = .ok (.getfield 135, 3) := by decide +kernel
theorem dX8_busy_7 : decode cX8_busy 7 = .ok (.if_icmp .ge 36, 3) := by decide +kernel
theorem dX8_busy_10 : decode cX8_busy 10 = .ok (.aload_n 0, 1) := by decide +kernel
theorem dX8_busy_11 : decode cX8_busy 11 = .ok (.getfield 48, 3) := by decide +kernel
theorem dX8_busy_14 : decode cX8_busy 14 = .ok (.iload_n 2, 1) := by decide +kernel
theorem dX8_busy_15 : decode cX8_busy 15 = .ok (.caload, 1) := by decide +kernel
theorem dX8_busy_16 : decode cX8_busy 16 = .ok (.bipush 115, 2) := by decide +kernel
theorem dX8_busy_18 : decode cX8_busy 18 = .ok (.if_icmp .ne 19, 3) := by decide +kernel
theorem dX8_busy_21 : decode cX8_busy 21 = .ok (.aload_n 0, 1) := by decide +kernel
theorem dX8_busy_22 : decode cX8_busy 22 = .ok (.getfield 54, 3) := by decide +kernel
theorem dX8_busy_25 : decode cX8_busy 25 = .ok (.iload_n 2, 1) := by decide +kernel
theorem dX8_busy_26 : decode cX8_busy 26 = .ok (.iaload, 1) := by decide +kernel
theorem dX8_busy_27 : decode cX8_busy 27 = .ok (.iload_n 1, 1) := by decide +kernel
theorem dX8_busy_28 : decode cX8_busy 28 = .ok (.ishr, 1) := by decide +kernel
theorem dX8_busy_29 : decode cX8_busy 29 = .ok (.iconst 1, 1) := by decide +kernel
theorem dX8_busy_30 : decode cX8_busy 30 = .ok (.iand, 1) := by decide +kernel
theorem dX8_busy_31 : decode cX8_busy 31 = .ok (.iconst 1, 1) := by decide +kernel
theorem dX8_busy_32 : decode cX8_busy 32 = .ok (.if_icmp .ne 5, 3) := by decide +kernel
theorem dX8_busy_35 : decode cX8_busy 35 = .ok (.iload_n 2, 1) := by decide +kernel
theorem dX8_busy_36 : decode cX8_busy 36 = .ok (.ireturn, 1) := by decide +kernel
theorem dX8_busy_37 : decode cX8_busy 37 = .ok (.iinc 2 1, 3) := by decide +kernel
theorem dX8_busy_40 : decode cX8_busy 40 = .ok (.goto (-38), 3) := by decide +kernel
theorem dX8_busy_43 : decode cX8_busy 43 = .ok (.iconst (-1), 1) := by decide +kernel
theorem dX8_busy_44 : decode cX8_busy 44 = .ok (.ireturn, 1) := by decide +kernel
theorem dX8_busyWith_0 : decode cX8_busyWith 0 = .ok (.aload_n 0, 1) := by decide +kernel
theorem dX8_busyWith_1 : decode cX8_busyWith 1 = .ok (.aload_n 0, 1) := by decide +kernel
theorem dX8_busyWith_2 : decode cX8_busyWith 2 = .ok (.iload_n 1, 1) := by decide +kernel
theorem dX8_busyWith_3 : decode cX8_busyWith 3 = .ok (.invokevirtual 120, 3) := by decide +kernel
theorem dX8_busyWith_6 : decode cX8_busyWith 6 = .ok (.ifCond .eq 7, 3) := by decide +kernel
theorem dX8_busyWith_9 : decode cX8_busyWith 9 = .ok (.iconst 1, 1) := by decide +kernel
theorem dX8_busyWith_10 : decode cX8_busyWith 10 = .ok (.goto 16, 3) := by decide +kernel
theorem dX8_busyWith_13 : decode cX8_busyWith 13 = .ok (.aload_n 0, 1) := by decide +kernel
theorem dX8_busyWith_14 : decode cX8_busyWith 14 = .ok (.iload_n 1, 1) := by decide +kernel
theorem dX8_busyWith_15 : decode cX8_busyWith 15 = .ok (.invokevirtual 123, 3) := by decide +kernel
theorem dX8_busyWith_18 : decode cX8_busyWith 18 = .ok (.ifCond .ge 7, 3) := by decide +kernel
theorem dX8_busyWith_21 : decode cX8_busyWith 21 = .ok (.iconst 2, 1) := by decide +kernel
theorem dX8_busyWith_22 : decode cX8_busyWith 22 = .ok (.goto 4, 3) := by decide +kernel
theorem dX8_busyWith_25 : decode cX8_busyWith 25 = .ok (.iconst 0, 1) := by decide +kernel
theorem dX8_busyWith_26 : decode cX8_busyWith 26 = .ok (.invokevirtual 113, 3) := by decide +kernel
theorem dX8_busyWith_29 : decode cX8_busyWith 29 = .ok (.ifCond .eq 7, 3) := by decide +kernel
theorem dX8_busyWith_32 : decode cX8_busyWith 32 = .ok (.iconst 0, 1) := by decide +kernel
theorem dX8_busyWith_33 : decode cX8_busyWith 33 = .ok (.goto 8, 3) := by decide +kernel
theorem dX8_busyWith_36 : decode cX8_busyWith 36 = .ok (.aload_n 0, 1) := by decide +kernel
theorem dX8_busyWith_37 : decode cX8_busyWith 37 = .ok (.iload_n 1, 1) := by decide +kernel
theorem dX8_busyWith_38 : decode cX8_busyWith 38 = .ok (.invokevirtual 123, 3) := by decide +kernel
theorem dX8_busyWith_41 : decode cX8_busyWith 41 = .ok (.ireturn, 1) := by decide +kernel
theorem dX8_relayed_0 : decode cX8_relayed 0 = .ok (.aload_n 0, 1) := by decide +kernel
theorem dX8_relayed_1 : decode cX8_relayed 1 = .ok (.iload_n 1, 1) := by decide +kernel
theorem dX8_relayed_2 : decode cX8_relayed 2 = .ok (.iload_n 2, 1) := by decide +kernel
theorem dX8_relayed_3 : decode cX8_relayed 3 = .ok (.invokevirtual 132, 3) := by decide +kernel
theorem dX8_relayed_6 : decode cX8_relayed 6 = .ok (.ifCond .ne 24, 3) := by decide +kernel
theorem dX8_relayed_9 : decode cX8_relayed 9 = .ok (.aload_n 0, 1) := by decide +kernel
theorem dX8_relayed_10 : decode cX8_relayed 10 = .ok (.aload_n 0, 1) := by decide +kernel
theorem dX8_relayed_11 : decode cX8_relayed 11 = .ok (.iload_n 1, 1) := by decide +kernel
theorem dX8_relayed_12 : decode cX8_relayed 12 = .ok (.iload_n 2, 1) := by decide +kernel
theorem dX8_relayed_13 : decode cX8_relayed 13 = .ok (.invokevirtual 138, 3) := by decide +kernel
theorem dX8_relayed_16 : decode cX8_relayed 16 = .ok (.ifCond .eq 7, 3) := by decide +kernel
theorem dX8_relayed_19 : decode cX8_relayed 19 = .ok (.iconst 0, 1) := by decide +kernel
theorem dX8_relayed_20 : decode cX8_relayed 20 = .ok (.goto 4, 3) := by decide +kernel
theorem dX8_relayed_23 : decode cX8_relayed 23 = .ok (.iconst 3, 1) := by decide +kernel
theorem dX8_relayed_24 : decode cX8_relayed 24 = .ok (.invokevirtual 113, 3) := by decide +kernel
theorem dX8_relayed_27 : decode cX8_relayed 27 = .ok (.ifCond .eq 7, 3) := by decide +kernel
theorem dX8_relayed_30 : decode cX8_relayed 30 = .ok (.iconst 0, 1) := by decide +kernel
theorem dX8_relayed_31 : decode cX8_relayed 31 = .ok (.goto 9, 3) := by decide +kernel
theorem dX8_relayed_34 : decode cX8_relayed 34 = .ok (.aload_n 0, 1) := by decide +kernel
theorem dX8_relayed_35 : decode cX8_relayed 35 = .ok (.getfield 106, 3) := by decide +kernel
theorem dX8_relayed_38 : decode cX8_relayed 38 = .ok (.iconst 2, 1) := by decide +kernel
theorem dX8_relayed_39 : decode cX8_relayed 39 = .ok (.isub, 1) := by decide +kernel
theorem dX8_relayed_40 : decode cX8_relayed 40 = .ok (.ireturn, 1) := by decide +kernel
theorem dX8_relays_0 : decode cX8_relays 0 = .ok (.aload_n 0, 1) := by decide +kernel
theorem dX8_relays_1 : decode cX8_relays 1 = .ok (.iload_n 1, 1) := by decide +kernel
theorem dX8_relays_2 : decode cX8_relays 2 = .ok (.iload_n 2, 1) := by decide +kernel
theorem dX8_relays_3 : decode cX8_relays 3 = .ok (.invokevirtual 141, 3) := by decide +kernel
theorem dX8_relays_6 : decode cX8_relays 6 = .ok (.ireturn, 1) := by decide +kernel
theorem dX8_relaysByJoining_0 : decode cX8_relaysByJoining 0 = .ok (.aload_n 0, 1) := by decide +kernel
theorem dX8_relaysByJoining_1 : decode cX8_relaysByJoining 1 = .ok (.iload_n 1, 1) := by decide +kernel
theorem dX8_relaysByJoining_2 : decode cX8_relaysByJoining 2 = .ok (.iload_n 2, 1) := by decide +kernel
theorem dX8_relaysByJoining_3 : decode cX8_relaysByJoining 3 = .ok (.invokevirtual 141, 3) := by decide +kernel
theorem dX8_relaysByJoining_6 : decode cX8_relaysByJoining 6 = .ok (.ireturn, 1) := by decide +kernel
theorem dX8_onWay_0 : decode cX8_onWay 0 = .ok (.aload_n 0, 1) := by decide +kernel
theorem dX8_onWay_1 : decode cX8_onWay 1 = .ok (.iload_n 1, 1) := by decide +kernel
theorem dX8_onWay_2 : decode cX8_onWay 2 = .ok (.iload_n 2, 1) := by decide +kernel
theorem dX8_onWay_3 : decode cX8_onWay 3 = .ok (.invokevirtual 132, 3) := by decide +kernel
theorem dX8_onWay_6 : decode cX8_onWay 6 = .ok (.ifCond .ne 38, 3) := by decide +kernel
theorem dX8_onWay_9 : decode cX8_onWay 9 = .ok (.aload_n 0, 1) := by decide +kernel
theorem dX8_onWay_10 : decode cX8_onWay 10 = .ok (.aload_n 0, 1) := by decide +kernel
theorem dX8_onWay_11 : decode cX8_onWay 11 = .ok (.iload_n 1, 1) := by decide +kernel
theorem dX8_onWay_12 : decode cX8_onWay 12 = .ok (.iload_n 2, 1) := by decide +kernel
theorem dX8_onWay_13 : decode cX8_onWay 13 = .ok (.invokevirtual 138, 3) := by decide +kernel
theorem dX8_onWay_16 : decode cX8_onWay 16 = .ok (.ifCond .eq 21, 3) := by decide +kernel
theorem dX8_onWay_19 : decode cX8_onWay 19 = .ok (.iload_n 3, 1) := by decide +kernel
theorem dX8_onWay_20 : decode cX8_onWay 20 = .ok (.iconst 0, 1) := by decide +kernel
theorem dX8_onWay_21 : decode cX8_onWay 21 = .ok (.aload_n 0, 1) := by decide +kernel
theorem dX8_onWay_22 : decode cX8_onWay 22 = .ok (.getfield 106, 3) := by decide +kernel
theorem dX8_onWay_25 : decode cX8_onWay 25 = .ok (.iconst 1, 1) := by decide +kernel
theorem dX8_onWay_26 : decode cX8_onWay 26 = .ok (.isub, 1) := by decide +kernel
theorem dX8_onWay_27 : decode cX8_onWay 27 = .ok (.invokestatic 91, 3) := by decide +kernel
theorem dX8_onWay_30 : decode cX8_onWay 30 = .ok (.ifCond .eq 7, 3) := by decide +kernel
theorem dX8_onWay_33 : decode cX8_onWay 33 = .ok (.iconst 0, 1) := by decide +kernel
theorem dX8_onWay_34 : decode cX8_onWay 34 = .ok (.goto 4, 3) := by decide +kernel
theorem dX8_onWay_37 : decode cX8_onWay 37 = .ok (.iconst 3, 1) := by decide +kernel
theorem dX8_onWay_38 : decode cX8_onWay 38 = .ok (.invokevirtual 113, 3) := by decide +kernel
theorem dX8_onWay_41 : decode cX8_onWay 41 = .ok (.ifCond .eq 7, 3) := by decide +kernel
theorem dX8_onWay_44 : decode cX8_onWay 44 = .ok (.iconst 0, 1) := by decide +kernel
theorem dX8_onWay_45 : decode cX8_onWay 45 = .ok (.goto 9, 3) := by decide +kernel
theorem dX8_onWay_48 : decode cX8_onWay 48 = .ok (.aload_n 0, 1) := by decide +kernel
theorem dX8_onWay_49 : decode cX8_onWay 49 = .ok (.getfield 32, 3) := by decide +kernel
theorem dX8_onWay_52 : decode cX8_onWay 52 = .ok (.iload_n 3, 1) := by decide +kernel
theorem dX8_onWay_53 : decode cX8_onWay 53 = .ok (.iaload, 1) := by decide +kernel
theorem dX8_onWay_54 : decode cX8_onWay 54 = .ok (.ireturn, 1) := by decide +kernel
theorem dX8_rank_0 : decode cX8_rank 0 = .ok (.iload_n 0, 1) := by decide +kernel
theorem dX8_rank_1 : decode cX8_rank 1 = .ok (.bipush 100, 2) := by decide +kernel
theorem dX8_rank_3 : decode cX8_rank 3 = .ok (.if_icmp .ne 7, 3) := by decide +kernel
theorem dX8_rank_6 : decode cX8_rank 6 = .ok (.iconst 3, 1) := by decide +kernel
theorem dX8_rank_7 : decode cX8_rank 7 = .ok (.goto 34, 3) := by decide +kernel
theorem dX8_rank_10 : decode cX8_rank 10 = .ok (.iload_n 0, 1) := by decide +kernel
theorem dX8_rank_11 : decode cX8_rank 11 = .ok (.bipush 117, 2) := by decide +kernel
theorem dX8_rank_13 : decode cX8_rank 13 = .ok (.if_icmp .ne 7, 3) := by decide +kernel
theorem dX8_rank_16 : decode cX8_rank 16 = .ok (.iconst 2, 1) := by decide +kernel
theorem dX8_rank_17 : decode cX8_rank 17 = .ok (.goto 24, 3) := by decide +kernel
theorem dX8_rank_20 : decode cX8_rank 20 = .ok (.iload_n 0, 1) := by decide +kernel
theorem dX8_rank_21 : decode cX8_rank 21 = .ok (.bipush 115, 2) := by decide +kernel
theorem dX8_rank_23 : decode cX8_rank 23 = .ok (.if_icmp .ne 7, 3) := by decide +kernel
theorem dX8_rank_26 : decode cX8_rank 26 = .ok (.iconst 1, 1) := by decide +kernel
theorem dX8_rank_27 : decode cX8_rank 27 = .ok (.goto 14, 3) := by decide +kernel
theorem dX8_rank_30 : decode cX8_rank 30 = .ok (.iload_n 0, 1) := by decide +kernel
theorem dX8_rank_31 : decode cX8_rank 31 = .ok (.bipush 114, 2) := by decide +kernel
theorem dX8_rank_33 : decode cX8_rank 33 = .ok (.if_icmp .ne 7, 3) := by decide +kernel
theorem dX8_rank_36 : decode cX8_rank 36 = .ok (.iconst 0, 1) := by decide +kernel
theorem dX8_rank_37 : decode cX8_rank 37 = .ok (.goto 4, 3) := by decide +kernel
theorem dX8_rank_40 : decode cX8_rank 40 = .ok (.iconst (-1), 1) := by decide +kernel
theorem dX8_rank_41 : decode cX8_rank 41 = .ok (.ireturn, 1) := by decide +kernel
theorem dX8_canBreak_0 : decode cX8_canBreak 0 = .ok (.aload_n 0, 1) := by decide +kernel
theorem dX8_canBreak_1 : decode cX8_canBreak 1 = .ok (.getfield 41, 3) := by decide +kernel
theorem dX8_canBreak_4 : decode cX8_canBreak 4 = .ok (.iload_n 1, 1) := by decide +kernel
theorem dX8_canBreak_5 : decode cX8_canBreak 5 = .ok (.caload, 1) := by decide +kernel
theorem dX8_canBreak_6 : decode cX8_canBreak 6 = .ok (.invokestatic 145, 3) := by decide +kernel
theorem dX8_canBreak_9 : decode cX8_canBreak 9 = .ok (.iconst 1, 1) := by decide +kernel
theorem dX8_canBreak_10 : decode cX8_canBreak 10 = .ok (.if_icmp .le 28, 3) := by decide +kernel
theorem dX8_canBreak_13 : decode cX8_canBreak 13 = .ok (.aload_n 0, 1) := by decide +kernel
theorem dX8_canBreak_14 : decode cX8_canBreak 14 = .ok (.getfield 41, 3) := by decide +kernel
theorem dX8_canBreak_17 : decode cX8_canBreak 17 = .ok (.iload_n 1, 1) := by decide +kernel
theorem dX8_canBreak_18 : decode cX8_canBreak 18 = .ok (.caload, 1) := by decide +kernel
theorem dX8_canBreak_19 : decode cX8_canBreak 19 = .ok (.invokestatic 145, 3) := by decide +kernel
theorem dX8_canBreak_22 : decode cX8_canBreak 22 = .ok (.aload_n 0, 1) := by decide +kernel
theorem dX8_canBreak_23 : decode cX8_canBreak 23 = .ok (.getfield 41, 3) := by decide +kernel
theorem dX8_canBreak_26 : decode cX8_canBreak 26 = .ok (.iload_n 2, 1) := by decide +kernel
theorem dX8_canBreak_27 : decode cX8_canBreak 27 = .ok (.caload, 1) := by decide +kernel
theorem dX8_canBreak_28 : decode cX8_canBreak 28 = .ok (.invokestatic 145, 3) := by decide +kernel
theorem dX8_canBreak_31 : decode cX8_canBreak 31 = .ok (.if_icmp .le 7, 3) := by decide +kernel
theorem dX8_canBreak_34 : decode cX8_canBreak 34 = .ok (.iconst 1, 1) := by decide +kernel
theorem dX8_canBreak_35 : decode cX8_canBreak 35 = .ok (.goto 4, 3) := by decide +kernel
theorem dX8_canBreak_38 : decode cX8_canBreak 38 = .ok (.iconst 0, 1) := by decide +kernel
theorem dX8_canBreak_39 : decode cX8_canBreak 39 = .ok (.ireturn, 1) := by decide +kernel
theorem dX8_firstChannel_0 : decode cX8_firstChannel 0 = .ok (.aload_n 0, 1) := by decide +kernel
theorem dX8_firstChannel_1 : decode cX8_firstChannel 1 = .ok (.getfield 41, 3) := by decide +kernel
theorem dX8_firstChannel_4 : decode cX8_firstChannel 4 = .ok (.iload_n 1, 1) := by decide +kernel
theorem dX8_firstChannel_5 : decode cX8_firstChannel 5 = .ok (.caload, 1) := by decide +kernel
theorem dX8_firstChannel_6 : decode cX8_firstChannel 6 = .ok (.invokestatic 145, 3) := by decide +kernel
theorem dX8_firstChannel_9 : decode cX8_firstChannel 9 = .ok (.iconst 1, 1) := by decide +kernel
theorem dX8_firstChannel_10 : decode cX8_firstChannel 10 = .ok (.if_icmp .le 7, 3) := by decide +kernel
theorem dX8_firstChannel_13 : decode cX8_firstChannel 13 = .ok (.iconst 0, 1) := by decide +kernel
theorem dX8_firstChannel_14 : decode cX8_firstChannel 14 = .ok (.goto 4, 3) := by decide +kernel
theorem dX8_firstChannel_17 : decode cX8_firstChannel 17 = .ok (.iconst 1, 1) := by decide +kernel
theorem dX8_firstChannel_18 : decode cX8_firstChannel 18 = .ok (.ireturn, 1) := by decide +kernel
theorem dX8_speaker_0 : decode cX8_speaker 0 = .ok (.iconst 0, 1) := by decide +kernel
theorem dX8_speaker_1 : decode cX8_speaker 1 = .ok (.istore_n 2, 1) := by decide +kernel
theorem dX8_speaker_2 : decode cX8_speaker 2 = .ok (.iload_n 2, 1) := by decide +kernel
theorem dX8_speaker_3 : decode cX8_speaker 3 = .ok (.aload_n 0, 1) := by decide +kernel
theorem dX8_speaker_4 : decode cX8_speaker 4 = .ok (.getfield 135, 3) := by decide +kernel
theorem dX8_speaker_7 : decode cX8_speaker 7 = .ok (.if_icmp .ge 32, 3) := by decide +kernel
theorem dX8_speaker_10 : decode cX8_speaker 10 = .ok (.aload_n 0, 1) := by decide +kernel
theorem dX8_speaker_11 : decode cX8_speaker 11 = .ok (.getfield 48, 3) := by decide +kernel
theorem dX8_speaker_14 : decode cX8_speaker 14 = .ok (.iload_n 2, 1) := by decide +kernel
theorem dX8_speaker_15 : decode cX8_speaker 15 = .ok (.caload, 1) := by decide +kernel
theorem dX8_speaker_16 : decode cX8_speaker 16 = .ok (.bipush 115, 2) := by decide +kernel
theorem dX8_speaker_18 : decode cX8_speaker 18 = .ok (.if_icmp .ne 15, 3) := by decide +kernel
theorem dX8_speaker_21 : decode cX8_speaker 21 = .ok (.aload_n 0, 1) := by decide +kernel
theorem dX8_speaker_22 : decode cX8_speaker 22 = .ok (.getfield 51, 3) := by decide +kernel
theorem dX8_speaker_25 : decode cX8_speaker 25 = .ok (.iload_n 2, 1) := by decide +kernel
theorem dX8_speaker_26 : decode cX8_speaker 26 = .ok (.iaload, 1) := by decide +kernel
theorem dX8_speaker_27 : decode cX8_speaker 27 = .ok (.iload_n 1, 1) := by decide +kernel
theorem dX8_speaker_28 : decode cX8_speaker 28 = .ok (.if_icmp .ne 5, 3) := by decide +kernel
theorem dX8_speaker_31 : decode cX8_speaker 31 = .ok (.iload_n 2, 1) := by decide +kernel
theorem dX8_speaker_32 : decode cX8_speaker 32 = .ok (.ireturn, 1) := by decide +kernel
theorem dX8_speaker_33 : decode cX8_speaker 33 = .ok (.iinc 2 1, 3) := by decide +kernel
theorem dX8_speaker_36 : decode cX8_speaker 36 = .ok (.goto (-34), 3) := by decide +kernel
theorem dX8_speaker_39 : decode cX8_speaker 39 = .ok (.iconst (-1), 1) := by decide +kernel
theorem dX8_speaker_40 : decode cX8_speaker 40 = .ok (.ireturn, 1) := by decide +kernel
theorem dX8_canBegin_0 : decode cX8_canBegin 0 = .ok (.aload_n 0, 1) := by decide +kernel
theorem dX8_canBegin_1 : decode cX8_canBegin 1 = .ok (.aload_n 0, 1) := by decide +kernel
theorem dX8_canBegin_2 : decode cX8_canBegin 2 = .ok (.getfield 35, 3) := by decide +kernel
theorem dX8_canBegin_5 : decode cX8_canBegin 5 = .ok (.iload_n 1, 1) := by decide +kernel
theorem dX8_canBegin_6 : decode cX8_canBegin 6 = .ok (.iaload, 1) := by decide +kernel
theorem dX8_canBegin_7 : decode cX8_canBegin 7 = .ok (.aload_n 0, 1) := by decide +kernel
theorem dX8_canBegin_8 : decode cX8_canBegin 8 = .ok (.getfield 38, 3) := by decide +kernel
theorem dX8_canBegin_11 : decode cX8_canBegin 11 = .ok (.iload_n 1, 1) := by decide +kernel
theorem dX8_canBegin_12 : decode cX8_canBegin 12 = .ok (.iaload, 1) := by decide +kernel
theorem dX8_canBegin_13 : decode cX8_canBegin 13 = .ok (.invokevirtual 138, 3) := by decide +kernel
theorem dX8_canBegin_16 : decode cX8_canBegin 16 = .ok (.ifCond .ne 5, 3) := by decide +kernel
theorem dX8_canBegin_19 : decode cX8_canBegin 19 = .ok (.iconst 0, 1) := by decide +kernel
theorem dX8_canBegin_20 : decode cX8_canBegin 20 = .ok (.ireturn, 1) := by decide +kernel
theorem dX8_canBegin_21 : decode cX8_canBegin 21 = .ok (.aload_n 0, 1) := by decide +kernel
theorem dX8_canBegin_22 : decode cX8_canBegin 22 = .ok (.invokevirtual 149, 3) := by decide +kernel
theorem dX8_canBegin_25 : decode cX8_canBegin 25 = .ok (.istore_n 2, 1) := by decide +kernel
theorem dX8_canBegin_26 : decode cX8_canBegin 26 = .ok (.iconst 0, 1) := by decide +kernel
theorem dX8_canBegin_27 : decode cX8_canBegin 27 = .ok (.istore_n 3, 1) := by decide +kernel
theorem dX8_canBegin_28 : decode cX8_canBegin 28 = .ok (.iconst 0, 1) := by decide +kernel
theorem dX8_canBegin_29 : decode cX8_canBegin 29 = .ok (.istore 4, 2) := by decide +kernel
theorem dX8_canBegin_31 : decode cX8_canBegin 31 = .ok (.iload 4, 2) := by decide +kernel
theorem dX8_canBegin_33 : decode cX8_canBegin 33 = .ok (.iconst 3, 1) := by decide +kernel
theorem dX8_canBegin_34 : decode cX8_canBegin 34 = .ok (.if_icmp .ge 81, 3) := by decide +kernel
theorem dX8_canBegin_37 : decode cX8_canBegin 37 = .ok (.aload_n 0, 1) := by decide +kernel
theorem dX8_canBegin_38 : decode cX8_canBegin 38 = .ok (.iload 4, 2) := by decide +kernel
theorem dX8_canBegin_40 : decode cX8_canBegin 40 = .ok (.invokevirtual 153, 3) := by decide +kernel
theorem dX8_canBegin_43 : decode cX8_canBegin 43 = .ok (.istore 5, 2) := by decide +kernel
theorem dX8_canBegin_45 : decode cX8_canBegin 45 = .ok (.iload 5, 2) := by decide +kernel
theorem dX8_canBegin_47 : decode cX8_canBegin 47 = .ok (.ifCond .lt 27, 3) := by decide +kernel
theorem dX8_canBegin_50 : decode cX8_canBegin 50 = .ok (.aload_n 0, 1) := by decide +kernel
theorem dX8_canBegin_51 : decode cX8_canBegin 51 = .ok (.getfield 54, 3) := by decide +kernel
theorem dX8_canBegin_54 : decode cX8_canBegin 54 = .ok (.iload 5, 2) := by decide +kernel
theorem dX8_canBegin_56 : decode cX8_canBegin 56 = .ok (.iaload, 1) := by decide +kernel
theorem dX8_canBegin_57 : decode cX8_canBegin 57 = .ok (.iload_n 2, 1) := by decide +kernel
theorem dX8_canBegin_58 : decode cX8_canBegin 58 = .ok (.iand, 1) := by decide +kernel
theorem dX8_canBegin_59 : decode cX8_canBegin 59 = .ok (.ifCond .eq 15, 3) := by decide +kernel
theorem dX8_canBegin_62 : decode cX8_canBegin 62 = .ok (.aload_n 0, 1) := by decide +kernel
theorem dX8_canBegin_63 : decode cX8_canBegin 63 = .ok (.iload_n 1, 1) := by decide +kernel
theorem dX8_canBegin_64 : decode cX8_canBegin 64 = .ok (.iload 5, 2) := by decide +kernel
theorem dX8_canBegin_66 : decode cX8_canBegin 66 = .ok (.invokevirtual 156, 3) := by decide +kernel
theorem dX8_canBegin_69 : decode cX8_canBegin 69 = .ok (.ifCond .ne 5, 3) := by decide +kernel
theorem dX8_canBegin_72 : decode cX8_canBegin 72 = .ok (.iconst 0, 1) := by decide +kernel
theorem dX8_canBegin_73 : decode cX8_canBegin 73 = .ok (.ireturn, 1) := by decide +kernel
theorem dX8_canBegin_74 : decode cX8_canBegin 74 = .ok (.iload_n 3, 1) := by decide +kernel
theorem dX8_canBegin_75 : decode cX8_canBegin 75 = .ok (.ifCond .ne 28, 3) := by decide +kernel
theorem dX8_canBegin_78 : decode cX8_canBegin 78 = .ok (.iload 4, 2) := by decide +kernel
theorem dX8_canBegin_80 : decode cX8_canBegin 80 = .ok (.aload_n 0, 1) := by decide +kernel
theorem dX8_canBegin_81 : decode cX8_canBegin 81 = .ok (.iload_n 1, 1) := by decide +kernel
theorem dX8_canBegin_82 : decode cX8_canBegin 82 = .ok (.invokevirtual 159, 3) := by decide +kernel
theorem dX8_canBegin_85 : decode cX8_canBegin 85 = .ok (.if_icmp .lt 22, 3) := by decide +kernel
theorem dX8_canBegin_88 : decode cX8_canBegin 88 = .ok (.iload 5, 2) := by decide +kernel
theorem dX8_canBegin_90 : decode cX8_canBegin 90 = .ok (.ifCond .lt 13, 3) := by decide +kernel
theorem dX8_canBegin_93 : decode cX8_canBegin 93 = .ok (.aload_n 0, 1) := by decide +kernel
theorem dX8_canBegin_94 : decode cX8_canBegin 94 = .ok (.iload_n 1, 1) := by decide +kernel
theorem dX8_canBegin_95 : decode cX8_canBegin 95 = .ok (.iload 5, 2) := by decide +kernel
theorem dX8_canBegin_97 : decode cX8_canBegin 97 = .ok (.invokevirtual 156, 3) := by decide +kernel
theorem dX8_canBegin_100 : decode cX8_canBegin 100 = .ok (.ifCond .eq 7, 3) := by decide +kernel
theorem dX8_canBegin_103 : decode cX8_canBegin 103 = .ok (.iconst 1, 1) := by decide +kernel
theorem dX8_canBegin_104 : decode cX8_canBegin 104 = .ok (.goto 4, 3) := by decide +kernel
theorem dX8_canBegin_107 : decode cX8_canBegin 107 = .ok (.iconst 0, 1) := by decide +kernel
theorem dX8_canBegin_108 : decode cX8_canBegin 108 = .ok (.istore_n 3, 1) := by decide +kernel
theorem dX8_canBegin_109 : decode cX8_canBegin 109 = .ok (.iinc 4 1, 3) := by decide +kernel
theorem dX8_canBegin_112 : decode cX8_canBegin 112 = .ok (.goto (-81), 3) := by decide +kernel
theorem dX8_canBegin_115 : decode cX8_canBegin 115 = .ok (.iload_n 3, 1) := by decide +kernel
theorem dX8_canBegin_116 : decode cX8_canBegin 116 = .ok (.ireturn, 1) := by decide +kernel
theorem dX8_interrupts_0 : decode cX8_interrupts 0 = .ok (.aload_n 0, 1) := by decide +kernel
theorem dX8_interrupts_1 : decode cX8_interrupts 1 = .ok (.getfield 48, 3) := by decide +kernel
theorem dX8_interrupts_4 : decode cX8_interrupts 4 = .ok (.iload_n 1, 1) := by decide +kernel
theorem dX8_interrupts_5 : decode cX8_interrupts 5 = .ok (.bipush 119, 2) := by decide +kernel
theorem dX8_interrupts_7 : decode cX8_interrupts 7 = .ok (.castore, 1) := by decide +kernel
theorem dX8_interrupts_8 : decode cX8_interrupts 8 = .ok (.aload_n 0, 1) := by decide +kernel
theorem dX8_interrupts_9 : decode cX8_interrupts 9 = .ok (.getfield 60, 3) := by decide +kernel
theorem dX8_interrupts_12 : decode cX8_interrupts 12 = .ok (.iload_n 1, 1) := by decide +kernel
theorem dX8_interrupts_13 : decode cX8_interrupts 13 = .ok (.dup2, 1) := by decide +kernel
theorem dX8_interrupts_14 : decode cX8_interrupts 14 = .ok (.iaload, 1) := by decide +kernel
theorem dX8_interrupts_15 : decode cX8_interrupts 15 = .ok (.iconst 1, 1) := by decide +kernel
theorem dX8_interrupts_16 : decode cX8_interrupts 16 = .ok (.iadd, 1) := by decide +kernel
theorem dX8_interrupts_17 : decode cX8_interrupts 17 = .ok (.iastore, 1) := by decide +kernel
theorem dX8_interrupts_18 : decode cX8_interrupts 18 = .ok (.aload_n 0, 1) := by decide +kernel
theorem dX8_interrupts_19 : decode cX8_interrupts 19 = .ok (.bipush 105, 2) := by decide +kernel
theorem dX8_interrupts_21 : decode cX8_interrupts 21 = .ok (.iload_n 1, 1) := by decide +kernel
theorem dX8_interrupts_22 : decode cX8_interrupts 22 = .ok (.invokevirtual 162, 3) := by decide +kernel
theorem dX8_interrupts_25 : decode cX8_interrupts 25 = .ok (.return_, 1) := by decide +kernel
theorem dX8_freeChannel_0 : decode cX8_freeChannel 0 = .ok (.aload_n 0, 1) := by decide +kernel
theorem dX8_freeChannel_1 : decode cX8_freeChannel 1 = .ok (.iload_n 1, 1) := by decide +kernel
theorem dX8_freeChannel_2 : decode cX8_freeChannel 2 = .ok (.invokevirtual 159, 3) := by decide +kernel
theorem dX8_freeChannel_5 : decode cX8_freeChannel 5 = .ok (.istore_n 2, 1) := by decide +kernel
theorem dX8_freeChannel_6 : decode cX8_freeChannel 6 = .ok (.iload_n 2, 1) := by decide +kernel
theorem dX8_freeChannel_7 : decode cX8_freeChannel 7 = .ok (.iconst 3, 1) := by decide +kernel
theorem dX8_freeChannel_8 : decode cX8_freeChannel 8 = .ok (.if_icmp .ge 19, 3) := by decide +kernel
theorem dX8_freeChannel_11 : decode cX8_freeChannel 11 = .ok (.aload_n 0, 1) := by decide +kernel
theorem dX8_freeChannel_12 : decode cX8_freeChannel 12 = .ok (.iload_n 2, 1) := by decide +kernel
theorem dX8_freeChannel_13 : decode cX8_freeChannel 13 = .ok (.invokevirtual 153, 3) := by decide +kernel
theorem dX8_freeChannel_16 : decode cX8_freeChannel 16 = .ok (.ifCond .ge 5, 3) := by decide +kernel
theorem dX8_freeChannel_19 : decode cX8_freeChannel 19 = .ok (.iload_n 2, 1) := by decide +kernel
theorem dX8_freeChannel_20 : decode cX8_freeChannel 20 = .ok (.ireturn, 1) := by decide +kernel
theorem dX8_freeChannel_21 : decode cX8_freeChannel 21 = .ok (.iinc 2 1, 3) := by decide +kernel
theorem dX8_freeChannel_24 : decode cX8_freeChannel 24 = .ok (.goto (-18), 3) := by decide +kernel
theorem dX8_freeChannel_27 : decode cX8_freeChannel 27 = .ok (.iconst (-1), 1) := by decide +kernel
theorem dX8_freeChannel_28 : decode cX8_freeChannel 28 = .ok (.ireturn, 1) := by decide +kernel
theorem dX8_weakest_0 : decode cX8_weakest 0 = .ok (.aload_n 0, 1) := by decide +kernel
theorem dX8_weakest_1 : decode cX8_weakest 1 = .ok (.aload_n 0, 1) := by decide +kernel
theorem dX8_weakest_2 : decode cX8_weakest 2 = .ok (.iload_n 1, 1) := by decide +kernel
theorem dX8_weakest_3 : decode cX8_weakest 3 = .ok (.invokevirtual 159, 3) := by decide +kernel
theorem dX8_weakest_6 : decode cX8_weakest 6 = .ok (.invokevirtual 153, 3) := by decide +kernel
theorem dX8_weakest_9 : decode cX8_weakest 9 = .ok (.istore_n 2, 1) := by decide +kernel
theorem dX8_weakest_10 : decode cX8_weakest 10 = .ok (.aload_n 0, 1) := by decide +kernel
theorem dX8_weakest_11 : decode cX8_weakest 11 = .ok (.iload_n 1, 1) := by decide +kernel
theorem dX8_weakest_12 : decode cX8_weakest 12 = .ok (.invokevirtual 159, 3) := by decide +kernel
theorem dX8_weakest_15 : decode cX8_weakest 15 = .ok (.istore_n 3, 1) := by decide +kernel
theorem dX8_weakest_16 : decode cX8_weakest 16 = .ok (.iload_n 3, 1) := by decide +kernel
theorem dX8_weakest_17 : decode cX8_weakest 17 = .ok (.iconst 3, 1) := by decide +kernel
theorem dX8_weakest_18 : decode cX8_weakest 18 = .ok (.if_icmp .ge 67, 3) := by decide +kernel
theorem dX8_weakest_21 : decode cX8_weakest 21 = .ok (.aload_n 0, 1) := by decide +kernel
theorem dX8_weakest_22 : decode cX8_weakest 22 = .ok (.iload_n 3, 1) := by decide +kernel
theorem dX8_weakest_23 : decode cX8_weakest 23 = .ok (.invokevirtual 153, 3) := by decide +kernel
theorem dX8_weakest_26 : decode cX8_weakest 26 = .ok (.istore 4, 2) := by decide +kernel
theorem dX8_weakest_28 : decode cX8_weakest 28 = .ok (.aload_n 0, 1) := by decide +kernel
theorem dX8_weakest_29 : decode cX8_weakest 29 = .ok (.getfield 41, 3) := by decide +kernel
theorem dX8_weakest_32 : decode cX8_weakest 32 = .ok (.iload 4, 2) := by decide +kernel
theorem dX8_weakest_34 : decode cX8_weakest 34 = .ok (.caload, 1) := by decide +kernel
theorem dX8_weakest_35 : decode cX8_weakest 35 = .ok (.invokestatic 145, 3) := by decide +kernel
theorem dX8_weakest_38 : decode cX8_weakest 38 = .ok (.aload_n 0, 1) := by decide +kernel
theorem dX8_weakest_39 : decode cX8_weakest 39 = .ok (.getfield 41, 3) := by decide +kernel
theorem dX8_weakest_42 : decode cX8_weakest 42 = .ok (.iload_n 2, 1) := by decide +kernel
theorem dX8_weakest_43 : decode cX8_weakest 43 = .ok (.caload, 1) := by decide +kernel
theorem dX8_weakest_44 : decode cX8_weakest 44 = .ok (.invokestatic 145, 3) := by decide +kernel
theorem dX8_weakest_47 : decode cX8_weakest 47 = .ok (.isub, 1) := by decide +kernel
theorem dX8_weakest_48 : decode cX8_weakest 48 = .ok (.istore 5, 2) := by decide +kernel
theorem dX8_weakest_50 : decode cX8_weakest 50 = .ok (.iload 5, 2) := by decide +kernel
theorem dX8_weakest_52 : decode cX8_weakest 52 = .ok (.ifCond .lt 24, 3) := by decide +kernel
theorem dX8_weakest_55 : decode cX8_weakest 55 = .ok (.iload 5, 2) := by decide +kernel
theorem dX8_weakest_57 : decode cX8_weakest 57 = .ok (.ifCond .ne 22, 3) := by decide +kernel
theorem dX8_weakest_60 : decode cX8_weakest 60 = .ok (.aload_n 0, 1) := by decide +kernel
theorem dX8_weakest_61 : decode cX8_weakest 61 = .ok (.getfield 57, 3) := by decide +kernel
theorem dX8_weakest_64 : decode cX8_weakest 64 = .ok (.iload 4, 2) := by decide +kernel
theorem dX8_weakest_66 : decode cX8_weakest 66 = .ok (.iaload, 1) := by decide +kernel
theorem dX8_weakest_67 : decode cX8_weakest 67 = .ok (.aload_n 0, 1) := by decide +kernel
theorem dX8_weakest_68 : decode cX8_weakest 68 = .ok (.getfield 57, 3) := by decide +kernel
theorem dX8_weakest_71 : decode cX8_weakest 71 = .ok (.iload_n 2, 1) := by decide +kernel
theorem dX8_weakest_72 : decode cX8_weakest 72 = .ok (.iaload, 1) := by decide +kernel
theorem dX8_weakest_73 : decode cX8_weakest 73 = .ok (.if_icmp .le 6, 3) := by decide +kernel
theorem dX8_weakest_76 : decode cX8_weakest 76 = .ok (.iload 4, 2) := by decide +kernel
theorem dX8_weakest_78 : decode cX8_weakest 78 = .ok (.istore_n 2, 1) := by decide +kernel
theorem dX8_weakest_79 : decode cX8_weakest 79 = .ok (.iinc 3 1, 3) := by decide +kernel
theorem dX8_weakest_82 : decode cX8_weakest 82 = .ok (.goto (-66), 3) := by decide +kernel
theorem dX8_weakest_85 : decode cX8_weakest 85 = .ok (.iload_n 2, 1) := by decide +kernel
theorem dX8_weakest_86 : decode cX8_weakest 86 = .ok (.ireturn, 1) := by decide +kernel
theorem dX8_beginsNow_0 : decode cX8_beginsNow 0 = .ok (.aload_n 0, 1) := by decide +kernel
theorem dX8_beginsNow_1 : decode cX8_beginsNow 1 = .ok (.aload_n 0, 1) := by decide +kernel
theorem dX8_beginsNow_2 : decode cX8_beginsNow 2 = .ok (.getfield 35, 3) := by decide +kernel
theorem dX8_beginsNow_5 : decode cX8_beginsNow 5 = .ok (.iload_n 1, 1) := by decide +kernel
theorem dX8_beginsNow_6 : decode cX8_beginsNow 6 = .ok (.iaload, 1) := by decide +kernel
theorem dX8_beginsNow_7 : decode cX8_beginsNow 7 = .ok (.aload_n 0, 1) := by decide +kernel
theorem dX8_beginsNow_8 : decode cX8_beginsNow 8 = .ok (.getfield 38, 3) := by decide +kernel
theorem dX8_beginsNow_11 : decode cX8_beginsNow 11 = .ok (.iload_n 1, 1) := by decide +kernel
theorem dX8_beginsNow_12 : decode cX8_beginsNow 12 = .ok (.iaload, 1) := by decide +kernel
theorem dX8_beginsNow_13 : decode cX8_beginsNow 13 = .ok (.invokevirtual 138, 3) := by decide +kernel
theorem dX8_beginsNow_16 : decode cX8_beginsNow 16 = .ok (.pop, 1) := by decide +kernel
theorem dX8_beginsNow_17 : decode cX8_beginsNow 17 = .ok (.aload_n 0, 1) := by decide +kernel
theorem dX8_beginsNow_18 : decode cX8_beginsNow 18 = .ok (.invokevirtual 149, 3) := by decide +kernel
theorem dX8_beginsNow_21 : decode cX8_beginsNow 21 = .ok (.istore_n 2, 1) := by decide +kernel
theorem dX8_beginsNow_22 : decode cX8_beginsNow 22 = .ok (.iconst 0, 1) := by decide +kernel
theorem dX8_beginsNow_23 : decode cX8_beginsNow 23 = .ok (.istore_n 3, 1) := by decide +kernel
theorem dX8_beginsNow_24 : decode cX8_beginsNow 24 = .ok (.iload_n 3, 1) := by decide +kernel
theorem dX8_beginsNow_25 : decode cX8_beginsNow 25 = .ok (.iconst 3, 1) := by decide +kernel
theorem dX8_beginsNow_26 : decode cX8_beginsNow 26 = .ok (.if_icmp .ge 41, 3) := by decide +kernel
theorem dX8_beginsNow_29 : decode cX8_beginsNow 29 = .ok (.aload_n 0, 1) := by decide +kernel
theorem dX8_beginsNow_30 : decode cX8_beginsNow 30 = .ok (.iload_n 3, 1) := by decide +kernel
theorem dX8_beginsNow_31 : decode cX8_beginsNow 31 = .ok (.invokevirtual 153, 3) := by decide +kernel
theorem dX8_beginsNow_34 : decode cX8_beginsNow 34 = .ok (.ifCond .lt 27, 3) := by decide +kernel
theorem dX8_beginsNow_37 : decode cX8_beginsNow 37 = .ok (.aload_n 0, 1) := by decide +kernel
theorem dX8_beginsNow_38 : decode cX8_beginsNow 38 = .ok (.getfield 54, 3) := by decide +kernel
theorem dX8_beginsNow_41 : decode cX8_beginsNow 41 = .ok (.aload_n 0, 1) := by decide +kernel
theorem dX8_beginsNow_42 : decode cX8_beginsNow 42 = .ok (.iload_n 3, 1) := by decide +kernel
theorem dX8_beginsNow_43 : decode cX8_beginsNow 43 = .ok (.invokevirtual 153, 3) := by decide +kernel
theorem dX8_beginsNow_46 : decode cX8_beginsNow 46 = .ok (.iaload, 1) := by decide +kernel
theorem dX8_beginsNow_47 : decode cX8_beginsNow 47 = .ok (.iload_n 2, 1) := by decide +kernel
theorem dX8_beginsNow_48 : decode cX8_beginsNow 48 = .ok (.iand, 1) := by decide +kernel
theorem dX8_beginsNow_49 : decode cX8_beginsNow 49 = .ok (.ifCond .eq 12, 3) := by decide +kernel
theorem dX8_beginsNow_52 : decode cX8_beginsNow 52 = .ok (.aload_n 0, 1) := by decide +kernel
theorem dX8_beginsNow_53 : decode cX8_beginsNow 53 = .ok (.aload_n 0, 1) := by decide +kernel
theorem dX8_beginsNow_54 : decode cX8_beginsNow 54 = .ok (.iload_n 3, 1) := by decide +kernel
theorem dX8_beginsNow_55 : decode cX8_beginsNow 55 = .ok (.invokevirtual 153, 3) := by decide +kernel
theorem dX8_beginsNow_58 : decode cX8_beginsNow 58 = .ok (.invokevirtual 126, 3) := by decide +kernel
theorem dX8_beginsNow_61 : decode cX8_beginsNow 61 = .ok (.iinc 3 1, 3) := by decide +kernel
theorem dX8_beginsNow_64 : decode cX8_beginsNow 64 = .ok (.goto (-40), 3) := by decide +kernel
theorem dX8_beginsNow_67 : decode cX8_beginsNow 67 = .ok (.aload_n 0, 1) := by decide +kernel
theorem dX8_beginsNow_68 : decode cX8_beginsNow 68 = .ok (.iload_n 1, 1) := by decide +kernel
theorem dX8_beginsNow_69 : decode cX8_beginsNow 69 = .ok (.invokevirtual 166, 3) := by decide +kernel
theorem dX8_beginsNow_72 : decode cX8_beginsNow 72 = .ok (.ifCond .ge 12, 3) := by decide +kernel
theorem dX8_beginsNow_75 : decode cX8_beginsNow 75 = .ok (.aload_n 0, 1) := by decide +kernel
theorem dX8_beginsNow_76 : decode cX8_beginsNow 76 = .ok (.aload_n 0, 1) := by decide +kernel
theorem dX8_beginsNow_77 : decode cX8_beginsNow 77 = .ok (.iload_n 1, 1) := by decide +kernel
theorem dX8_beginsNow_78 : decode cX8_beginsNow 78 = .ok (.invokevirtual 169, 3) := by decide +kernel
theorem dX8_beginsNow_81 : decode cX8_beginsNow 81 = .ok (.invokevirtual 126, 3) := by decide +kernel
theorem dX8_beginsNow_84 : decode cX8_beginsNow 84 = .ok (.aload_n 0, 1) := by decide +kernel
theorem dX8_beginsNow_85 : decode cX8_beginsNow 85 = .ok (.getfield 51, 3) := by decide +kernel
theorem dX8_beginsNow_88 : decode cX8_beginsNow 88 = .ok (.iload_n 1, 1) := by decide +kernel
theorem dX8_beginsNow_89 : decode cX8_beginsNow 89 = .ok (.aload_n 0, 1) := by decide +kernel
theorem dX8_beginsNow_90 : decode cX8_beginsNow 90 = .ok (.iload_n 1, 1) := by decide +kernel
theorem dX8_beginsNow_91 : decode cX8_beginsNow 91 = .ok (.invokevirtual 166, 3) := by decide +kernel
theorem dX8_beginsNow_94 : decode cX8_beginsNow 94 = .ok (.iastore, 1) := by decide +kernel
theorem dX8_beginsNow_95 : decode cX8_beginsNow 95 = .ok (.aload_n 0, 1) := by decide +kernel
theorem dX8_beginsNow_96 : decode cX8_beginsNow 96 = .ok (.getfield 54, 3) := by decide +kernel
theorem dX8_beginsNow_99 : decode cX8_beginsNow 99 = .ok (.iload_n 1, 1) := by decide +kernel
theorem dX8_beginsNow_100 : decode cX8_beginsNow 100 = .ok (.iload_n 2, 1) := by decide +kernel
theorem dX8_beginsNow_101 : decode cX8_beginsNow 101 = .ok (.iastore, 1) := by decide +kernel
theorem dX8_beginsNow_102 : decode cX8_beginsNow 102 = .ok (.aload_n 0, 1) := by decide +kernel
theorem dX8_beginsNow_103 : decode cX8_beginsNow 103 = .ok (.getfield 57, 3) := by decide +kernel
theorem dX8_beginsNow_106 : decode cX8_beginsNow 106 = .ok (.iload_n 1, 1) := by decide +kernel
theorem dX8_beginsNow_107 : decode cX8_beginsNow 107 = .ok (.iaload, 1) := by decide +kernel
theorem dX8_beginsNow_108 : decode cX8_beginsNow 108 = .ok (.ifCond .ne 33, 3) := by decide +kernel
theorem dX8_beginsNow_111 : decode cX8_beginsNow 111 = .ok (.aload_n 0, 1) := by decide +kernel
theorem dX8_beginsNow_112 : decode cX8_beginsNow 112 = .ok (.dup, 1) := by decide +kernel
theorem dX8_beginsNow_113 : decode cX8_beginsNow 113 = .ok (.getfield 172, 3) := by decide +kernel
theorem dX8_beginsNow_116 : decode cX8_beginsNow 116 = .ok (.iconst 1, 1) := by decide +kernel
theorem dX8_beginsNow_117 : decode cX8_beginsNow 117 = .ok (.iadd, 1) := by decide +kernel
theorem dX8_beginsNow_118 : decode cX8_beginsNow 118 = .ok (.putfield 172, 3) := by decide +kernel
theorem dX8_beginsNow_121 : decode cX8_beginsNow 121 = .ok (.aload_n 0, 1) := by decide +kernel
theorem dX8_beginsNow_122 : decode cX8_beginsNow 122 = .ok (.dup, 1) := by decide +kernel
theorem dX8_beginsNow_123 : decode cX8_beginsNow 123 = .ok (.getfield 175, 3) := by decide +kernel
theorem dX8_beginsNow_126 : decode cX8_beginsNow 126 = .ok (.aload_n 0, 1) := by decide +kernel
theorem dX8_beginsNow_127 : decode cX8_beginsNow 127 = .ok (.getfield 85, 3) := by decide +kernel
theorem dX8_beginsNow_130 : decode cX8_beginsNow 130 = .ok (.aload_n 0, 1) := by decide +kernel
theorem dX8_beginsNow_131 : decode cX8_beginsNow 131 = .ok (.getfield 63, 3) := by decide +kernel
theorem dX8_beginsNow_134 : decode cX8_beginsNow 134 = .ok (.iload_n 1, 1) := by decide +kernel
theorem dX8_beginsNow_135 : decode cX8_beginsNow 135 = .ok (.iaload, 1) := by decide +kernel
theorem dX8_beginsNow_136 : decode cX8_beginsNow 136 = .ok (.isub, 1) := by decide +kernel
theorem dX8_beginsNow_137 : decode cX8_beginsNow 137 = .ok (.iadd, 1) := by decide +kernel
theorem dX8_beginsNow_138 : decode cX8_beginsNow 138 = .ok (.putfield 175, 3) := by decide +kernel
theorem dX8_beginsNow_141 : decode cX8_beginsNow 141 = .ok (.aload_n 0, 1) := by decide +kernel
theorem dX8_beginsNow_142 : decode cX8_beginsNow 142 = .ok (.dup, 1) := by decide +kernel
theorem dX8_beginsNow_143 : decode cX8_beginsNow 143 = .ok (.getfield 178, 3) := by decide +kernel
theorem dX8_beginsNow_146 : decode cX8_beginsNow 146 = .ok (.iconst 1, 1) := by decide +kernel
theorem dX8_beginsNow_147 : decode cX8_beginsNow 147 = .ok (.iadd, 1) := by decide +kernel
theorem dX8_beginsNow_148 : decode cX8_beginsNow 148 = .ok (.putfield 178, 3) := by decide +kernel
theorem dX8_beginsNow_151 : decode cX8_beginsNow 151 = .ok (.aload_n 0, 1) := by decide +kernel
theorem dX8_beginsNow_152 : decode cX8_beginsNow 152 = .ok (.getfield 57, 3) := by decide +kernel
theorem dX8_beginsNow_155 : decode cX8_beginsNow 155 = .ok (.iload_n 1, 1) := by decide +kernel
theorem dX8_beginsNow_156 : decode cX8_beginsNow 156 = .ok (.aload_n 0, 1) := by decide +kernel
theorem dX8_beginsNow_157 : decode cX8_beginsNow 157 = .ok (.getfield 178, 3) := by decide +kernel
theorem dX8_beginsNow_160 : decode cX8_beginsNow 160 = .ok (.iastore, 1) := by decide +kernel
theorem dX8_beginsNow_161 : decode cX8_beginsNow 161 = .ok (.aload_n 0, 1) := by decide +kernel
theorem dX8_beginsNow_162 : decode cX8_beginsNow 162 = .ok (.getfield 48, 3) := by decide +kernel
theorem dX8_beginsNow_165 : decode cX8_beginsNow 165 = .ok (.iload_n 1, 1) := by decide +kernel
theorem dX8_beginsNow_166 : decode cX8_beginsNow 166 = .ok (.bipush 115, 2) := by decide +kernel
theorem dX8_beginsNow_168 : decode cX8_beginsNow 168 = .ok (.castore, 1) := by decide +kernel
theorem dX8_beginsNow_169 : decode cX8_beginsNow 169 = .ok (.aload_n 0, 1) := by decide +kernel
theorem dX8_beginsNow_170 : decode cX8_beginsNow 170 = .ok (.getfield 23, 3) := by decide +kernel
theorem dX8_beginsNow_173 : decode cX8_beginsNow 173 = .ok (.aload_n 0, 1) := by decide +kernel
theorem dX8_beginsNow_174 : decode cX8_beginsNow 174 = .ok (.getfield 35, 3) := by decide +kernel
theorem dX8_beginsNow_177 : decode cX8_beginsNow 177 = .ok (.iload_n 1, 1) := by decide +kernel
theorem dX8_beginsNow_178 : decode cX8_beginsNow 178 = .ok (.iaload, 1) := by decide +kernel
theorem dX8_beginsNow_179 : decode cX8_beginsNow 179 = .ok (.aload_n 0, 1) := by decide +kernel
theorem dX8_beginsNow_180 : decode cX8_beginsNow 180 = .ok (.getfield 85, 3) := by decide +kernel
theorem dX8_beginsNow_183 : decode cX8_beginsNow 183 = .ok (.iastore, 1) := by decide +kernel
theorem dX8_beginsNow_184 : decode cX8_beginsNow 184 = .ok (.aload_n 0, 1) := by decide +kernel
theorem dX8_beginsNow_185 : decode cX8_beginsNow 185 = .ok (.bipush 98, 2) := by decide +kernel
theorem dX8_beginsNow_187 : decode cX8_beginsNow 187 = .ok (.iload_n 1, 1) := by decide +kernel
theorem dX8_beginsNow_188 : decode cX8_beginsNow 188 = .ok (.invokevirtual 162, 3) := by decide +kernel
theorem dX8_beginsNow_191 : decode cX8_beginsNow 191 = .ok (.return_, 1) := by decide +kernel
theorem dX8_letsSpeak_0 : decode cX8_letsSpeak 0 = .ok (.iconst 3, 1) := by decide +kernel
theorem dX8_letsSpeak_1 : decode cX8_letsSpeak 1 = .ok (.istore_n 1, 1) := by decide +kernel
theorem dX8_letsSpeak_2 : decode cX8_letsSpeak 2 = .ok (.iload_n 1, 1) := by decide +kernel
theorem dX8_letsSpeak_3 : decode cX8_letsSpeak 3 = .ok (.ifCond .lt 62, 3) := by decide +kernel
theorem dX8_letsSpeak_6 : decode cX8_letsSpeak 6 = .ok (.iconst 0, 1) := by decide +kernel
theorem dX8_letsSpeak_7 : decode cX8_letsSpeak 7 = .ok (.istore_n 2, 1) := by decide +kernel
theorem dX8_letsSpeak_8 : decode cX8_letsSpeak 8 = .ok (.iload_n 2, 1) := by decide +kernel
theorem dX8_letsSpeak_9 : decode cX8_letsSpeak 9 = .ok (.aload_n 0, 1) := by decide +kernel
theorem dX8_letsSpeak_10 : decode cX8_letsSpeak 10 = .ok (.getfield 135, 3) := by decide +kernel
theorem dX8_letsSpeak_13 : decode cX8_letsSpeak 13 = .ok (.if_icmp .ge 46, 3) := by decide +kernel
theorem dX8_letsSpeak_16 : decode cX8_letsSpeak 16 = .ok (.aload_n 0, 1) := by decide +kernel
theorem dX8_letsSpeak_17 : decode cX8_letsSpeak 17 = .ok (.getfield 48, 3) := by decide +kernel
theorem dX8_letsSpeak_20 : decode cX8_letsSpeak 20 = .ok (.iload_n 2, 1) := by decide +kernel
theorem dX8_letsSpeak_21 : decode cX8_letsSpeak 21 = .ok (.caload, 1) := by decide +kernel
theorem dX8_letsSpeak_22 : decode cX8_letsSpeak 22 = .ok (.bipush 119, 2) := by decide +kernel
theorem dX8_letsSpeak_24 : decode cX8_letsSpeak 24 = .ok (.if_icmp .ne 29, 3) := by decide +kernel
theorem dX8_letsSpeak_27 : decode cX8_letsSpeak 27 = .ok (.aload_n 0, 1) := by decide +kernel
theorem dX8_letsSpeak_28 : decode cX8_letsSpeak 28 = .ok (.getfield 41, 3) := by decide +kernel
theorem dX8_letsSpeak_31 : decode cX8_letsSpeak 31 = .ok (.iload_n 2, 1) := by decide +kernel
theorem dX8_letsSpeak_32 : decode cX8_letsSpeak 32 = .ok (.caload, 1) := by decide +kernel
theorem dX8_letsSpeak_33 : decode cX8_letsSpeak 33 = .ok (.invokestatic 145, 3) := by decide +kernel
theorem dX8_letsSpeak_36 : decode cX8_letsSpeak 36 = .ok (.iload_n 1, 1) := by decide +kernel
theorem dX8_letsSpeak_37 : decode cX8_letsSpeak 37 = .ok (.if_icmp .ne 16, 3) := by decide +kernel
theorem dX8_letsSpeak_40 : decode cX8_letsSpeak 40 = .ok (.aload_n 0, 1) := by decide +kernel
theorem dX8_letsSpeak_41 : decode cX8_letsSpeak 41 = .ok (.iload_n 2, 1) := by decide +kernel
theorem dX8_letsSpeak_42 : decode cX8_letsSpeak 42 = .ok (.invokevirtual 181, 3) := by decide +kernel
theorem dX8_letsSpeak_45 : decode cX8_letsSpeak 45 = .ok (.ifCond .eq 8, 3) := by decide +kernel
theorem dX8_letsSpeak_48 : decode cX8_letsSpeak 48 = .ok (.aload_n 0, 1) := by decide +kernel
theorem dX8_letsSpeak_49 : decode cX8_letsSpeak 49 = .ok (.iload_n 2, 1) := by decide +kernel
theorem dX8_letsSpeak_50 : decode cX8_letsSpeak 50 = .ok (.invokevirtual 184, 3) := by decide +kernel
theorem dX8_letsSpeak_53 : decode cX8_letsSpeak 53 = .ok (.iinc 2 1, 3) := by decide +kernel
theorem dX8_letsSpeak_56 : decode cX8_letsSpeak 56 = .ok (.goto (-48), 3) := by decide +kernel
theorem dX8_letsSpeak_59 : decode cX8_letsSpeak 59 = .ok (.iinc 1 (-1), 3) := by decide +kernel
theorem dX8_letsSpeak_62 : decode cX8_letsSpeak 62 = .ok (.goto (-60), 3) := by decide +kernel
theorem dX8_letsSpeak_65 : decode cX8_letsSpeak 65 = .ok (.return_, 1) := by decide +kernel
theorem dX8_many_0 : decode cX8_many 0 = .ok (.iconst 0, 1) := by decide +kernel
theorem dX8_many_1 : decode cX8_many 1 = .ok (.istore_n 2, 1) := by decide +kernel
theorem dX8_many_2 : decode cX8_many 2 = .ok (.iconst 0, 1) := by decide +kernel
theorem dX8_many_3 : decode cX8_many 3 = .ok (.istore_n 3, 1) := by decide +kernel
theorem dX8_many_4 : decode cX8_many 4 = .ok (.iload_n 3, 1) := by decide +kernel
theorem dX8_many_5 : decode cX8_many 5 = .ok (.aload_n 0, 1) := by decide +kernel
theorem dX8_many_6 : decode cX8_many 6 = .ok (.getfield 135, 3) := by decide +kernel
theorem dX8_many_9 : decode cX8_many 9 = .ok (.if_icmp .ge 27, 3) := by decide +kernel
theorem dX8_many_12 : decode cX8_many 12 = .ok (.iload_n 2, 1) := by decide +kernel
theorem dX8_many_13 : decode cX8_many 13 = .ok (.aload_n 0, 1) := by decide +kernel
theorem dX8_many_14 : decode cX8_many 14 = .ok (.getfield 48, 3) := by decide +kernel
theorem dX8_many_17 : decode cX8_many 17 = .ok (.iload_n 3, 1) := by decide +kernel
theorem dX8_many_18 : decode cX8_many 18 = .ok (.caload, 1) := by decide +kernel
theorem dX8_many_19 : decode cX8_many 19 = .ok (.iload_n 1, 1) := by decide +kernel
theorem dX8_many_20 : decode cX8_many 20 = .ok (.if_icmp .ne 7, 3) := by decide +kernel
theorem dX8_many_23 : decode cX8_many 23 = .ok (.iconst 1, 1) := by decide +kernel
theorem dX8_many_24 : decode cX8_many 24 = .ok (.goto 4, 3) := by decide +kernel
theorem dX8_many_27 : decode cX8_many 27 = .ok (.iconst 0, 1) := by decide +kernel
theorem dX8_many_28 : decode cX8_many 28 = .ok (.iadd, 1) := by decide +kernel
theorem dX8_many_29 : decode cX8_many 29 = .ok (.istore_n 2, 1) := by decide +kernel
theorem dX8_many_30 : decode cX8_many 30 = .ok (.iinc 3 1, 3) := by decide +kernel
theorem dX8_many_33 : decode cX8_many 33 = .ok (.goto (-29), 3) := by decide +kernel
theorem dX8_many_36 : decode cX8_many 36 = .ok (.iload_n 2, 1) := by decide +kernel
theorem dX8_many_37 : decode cX8_many 37 = .ok (.ireturn, 1) := by decide +kernel
theorem dX8_isFull_0 : decode cX8_isFull 0 = .ok (.aload_n 0, 1) := by decide +kernel
theorem dX8_isFull_1 : decode cX8_isFull 1 = .ok (.getfield 135, 3) := by decide +kernel
theorem dX8_isFull_4 : decode cX8_isFull 4 = .ok (.sipush 150, 3) := by decide +kernel
theorem dX8_isFull_7 : decode cX8_isFull 7 = .ok (.if_icmp .eq 21, 3) := by decide +kernel
theorem dX8_isFull_10 : decode cX8_isFull 10 = .ok (.aload_n 0, 1) := by decide +kernel
theorem dX8_isFull_11 : decode cX8_isFull 11 = .ok (.bipush 119, 2) := by decide +kernel
theorem dX8_isFull_13 : decode cX8_isFull 13 = .ok (.invokevirtual 187, 3) := by decide +kernel
theorem dX8_isFull_16 : decode cX8_isFull 16 = .ok (.aload_n 0, 1) := by decide +kernel
theorem dX8_isFull_17 : decode cX8_isFull 17 = .ok (.bipush 115, 2) := by decide +kernel
theorem dX8_isFull_19 : decode cX8_isFull 19 = .ok (.invokevirtual 187, 3) := by decide +kernel
theorem dX8_isFull_22 : decode cX8_isFull 22 = .ok (.iadd, 1) := by decide +kernel
theorem dX8_isFull_23 : decode cX8_isFull 23 = .ok (.bipush 24, 2) := by decide +kernel
theorem dX8_isFull_25 : decode cX8_isFull 25 = .ok (.if_icmp .ne 7, 3) := by decide +kernel
theorem dX8_isFull_28 : decode cX8_isFull 28 = .ok (.iconst 1, 1) := by decide +kernel
theorem dX8_isFull_29 : decode cX8_isFull 29 = .ok (.goto 4, 3) := by decide +kernel
theorem dX8_isFull_32 : decode cX8_isFull 32 = .ok (.iconst 0, 1) := by decide +kernel
theorem dX8_isFull_33 : decode cX8_isFull 33 = .ok (.ireturn, 1) := by decide +kernel
theorem dX8_places_0 : decode cX8_places 0 = .ok (.aload_n 0, 1) := by decide +kernel
theorem dX8_places_1 : decode cX8_places 1 = .ok (.getfield 35, 3) := by decide +kernel
theorem dX8_places_4 : decode cX8_places 4 = .ok (.aload_n 0, 1) := by decide +kernel
theorem dX8_places_5 : decode cX8_places 5 = .ok (.getfield 135, 3) := by decide +kernel
theorem dX8_places_8 : decode cX8_places 8 = .ok (.iload_n 1, 1) := by decide +kernel
theorem dX8_places_9 : decode cX8_places 9 = .ok (.iastore, 1) := by decide +kernel
theorem dX8_places_10 : decode cX8_places 10 = .ok (.aload_n 0, 1) := by decide +kernel
theorem dX8_places_11 : decode cX8_places 11 = .ok (.getfield 38, 3) := by decide +kernel
theorem dX8_places_14 : decode cX8_places 14 = .ok (.aload_n 0, 1) := by decide +kernel
theorem dX8_places_15 : decode cX8_places 15 = .ok (.getfield 135, 3) := by decide +kernel
theorem dX8_places_18 : decode cX8_places 18 = .ok (.iload_n 2, 1) := by decide +kernel
theorem dX8_places_19 : decode cX8_places 19 = .ok (.iastore, 1) := by decide +kernel
theorem dX8_places_20 : decode cX8_places 20 = .ok (.aload_n 0, 1) := by decide +kernel
theorem dX8_places_21 : decode cX8_places 21 = .ok (.getfield 41, 3) := by decide +kernel
theorem dX8_places_24 : decode cX8_places 24 = .ok (.aload_n 0, 1) := by decide +kernel
theorem dX8_places_25 : decode cX8_places 25 = .ok (.getfield 135, 3) := by decide +kernel
theorem dX8_places_28 : decode cX8_places 28 = .ok (.iload_n 3, 1) := by decide +kernel
theorem dX8_places_29 : decode cX8_places 29 = .ok (.castore, 1) := by decide +kernel
theorem dX8_places_30 : decode cX8_places 30 = .ok (.aload_n 0, 1) := by decide +kernel
theorem dX8_places_31 : decode cX8_places 31 = .ok (.getfield 45, 3) := by decide +kernel
theorem dX8_places_34 : decode cX8_places 34 = .ok (.aload_n 0, 1) := by decide +kernel
theorem dX8_places_35 : decode cX8_places 35 = .ok (.getfield 135, 3) := by decide +kernel
theorem dX8_places_38 : decode cX8_places 38 = .ok (.iload 4, 2) := by decide +kernel
theorem dX8_places_40 : decode cX8_places 40 = .ok (.iastore, 1) := by decide +kernel
theorem dX8_places_41 : decode cX8_places 41 = .ok (.aload_n 0, 1) := by decide +kernel
theorem dX8_places_42 : decode cX8_places 42 = .ok (.getfield 48, 3) := by decide +kernel
theorem dX8_places_45 : decode cX8_places 45 = .ok (.aload_n 0, 1) := by decide +kernel
theorem dX8_places_46 : decode cX8_places 46 = .ok (.getfield 135, 3) := by decide +kernel
theorem dX8_places_49 : decode cX8_places 49 = .ok (.bipush 119, 2) := by decide +kernel
theorem dX8_places_51 : decode cX8_places 51 = .ok (.castore, 1) := by decide +kernel
theorem dX8_places_52 : decode cX8_places 52 = .ok (.aload_n 0, 1) := by decide +kernel
theorem dX8_places_53 : decode cX8_places 53 = .ok (.getfield 63, 3) := by decide +kernel
theorem dX8_places_56 : decode cX8_places 56 = .ok (.aload_n 0, 1) := by decide +kernel
theorem dX8_places_57 : decode cX8_places 57 = .ok (.getfield 135, 3) := by decide +kernel
theorem dX8_places_60 : decode cX8_places 60 = .ok (.aload_n 0, 1) := by decide +kernel
theorem dX8_places_61 : decode cX8_places 61 = .ok (.getfield 85, 3) := by decide +kernel
theorem dX8_places_64 : decode cX8_places 64 = .ok (.iastore, 1) := by decide +kernel
theorem dX8_places_65 : decode cX8_places 65 = .ok (.aload_n 0, 1) := by decide +kernel
theorem dX8_places_66 : decode cX8_places 66 = .ok (.bipush 112, 2) := by decide +kernel
theorem dX8_places_68 : decode cX8_places 68 = .ok (.aload_n 0, 1) := by decide +kernel
theorem dX8_places_69 : decode cX8_places 69 = .ok (.getfield 135, 3) := by decide +kernel
theorem dX8_places_72 : decode cX8_places 72 = .ok (.invokevirtual 162, 3) := by decide +kernel
theorem dX8_places_75 : decode cX8_places 75 = .ok (.aload_n 0, 1) := by decide +kernel
theorem dX8_places_76 : decode cX8_places 76 = .ok (.dup, 1) := by decide +kernel
theorem dX8_places_77 : decode cX8_places 77 = .ok (.getfield 135, 3) := by decide +kernel
theorem dX8_places_80 : decode cX8_places 80 = .ok (.iconst 1, 1) := by decide +kernel
theorem dX8_places_81 : decode cX8_places 81 = .ok (.iadd, 1) := by decide +kernel
theorem dX8_places_82 : decode cX8_places 82 = .ok (.putfield 135, 3) := by decide +kernel
theorem dX8_places_85 : decode cX8_places 85 = .ok (.return_, 1) := by decide +kernel
theorem dX8_call_0 : decode cX8_call 0 = .ok (.aload_n 0, 1) := by decide +kernel
theorem dX8_call_1 : decode cX8_call 1 = .ok (.aload_n 0, 1) := by decide +kernel
theorem dX8_call_2 : decode cX8_call 2 = .ok (.iload_n 1, 1) := by decide +kernel
theorem dX8_call_3 : decode cX8_call 3 = .ok (.invokevirtual 120, 3) := by decide +kernel
theorem dX8_call_6 : decode cX8_call 6 = .ok (.ifCond .ne 11, 3) := by decide +kernel
theorem dX8_call_9 : decode cX8_call 9 = .ok (.aload_n 0, 1) := by decide +kernel
theorem dX8_call_10 : decode cX8_call 10 = .ok (.iload_n 2, 1) := by decide +kernel
theorem dX8_call_11 : decode cX8_call 11 = .ok (.invokevirtual 120, 3) := by decide +kernel
theorem dX8_call_14 : decode cX8_call 14 = .ok (.ifCond .eq 7, 3) := by decide +kernel
theorem dX8_call_17 : decode cX8_call 17 = .ok (.iconst 1, 1) := by decide +kernel
theorem dX8_call_18 : decode cX8_call 18 = .ok (.goto 42, 3) := by decide +kernel
theorem dX8_call_21 : decode cX8_call 21 = .ok (.iload_n 1, 1) := by decide +kernel
theorem dX8_call_22 : decode cX8_call 22 = .ok (.iload_n 2, 1) := by decide +kernel
theorem dX8_call_23 : decode cX8_call 23 = .ok (.if_icmp .eq 21, 3) := by decide +kernel
theorem dX8_call_26 : decode cX8_call 26 = .ok (.iload_n 3, 1) := by decide +kernel
theorem dX8_call_27 : decode cX8_call 27 = .ok (.invokestatic 145, 3) := by decide +kernel
theorem dX8_call_30 : decode cX8_call 30 = .ok (.ifCond .lt 14, 3) := by decide +kernel
theorem dX8_call_33 : decode cX8_call 33 = .ok (.iload 4, 2) := by decide +kernel
theorem dX8_call_35 : decode cX8_call 35 = .ok (.iconst 1, 1) := by decide +kernel
theorem dX8_call_36 : decode cX8_call 36 = .ok (.bipush 30, 2) := by decide +kernel
theorem dX8_call_38 : decode cX8_call 38 = .ok (.invokestatic 91, 3) := by decide +kernel
theorem dX8_call_41 : decode cX8_call 41 = .ok (.ifCond .ne 7, 3) := by decide +kernel
theorem dX8_call_44 : decode cX8_call 44 = .ok (.iconst 2, 1) := by decide +kernel
theorem dX8_call_45 : decode cX8_call 45 = .ok (.goto 15, 3) := by decide +kernel
theorem dX8_call_48 : decode cX8_call 48 = .ok (.aload_n 0, 1) := by decide +kernel
theorem dX8_call_49 : decode cX8_call 49 = .ok (.invokevirtual 190, 3) := by decide +kernel
theorem dX8_call_52 : decode cX8_call 52 = .ok (.ifCond .eq 7, 3) := by decide +kernel
theorem dX8_call_55 : decode cX8_call 55 = .ok (.iconst 3, 1) := by decide +kernel
theorem dX8_call_56 : decode cX8_call 56 = .ok (.goto 4, 3) := by decide +kernel
theorem dX8_call_59 : decode cX8_call 59 = .ok (.iconst 0, 1) := by decide +kernel
theorem dX8_call_60 : decode cX8_call 60 = .ok (.invokevirtual 113, 3) := by decide +kernel
theorem dX8_call_63 : decode cX8_call 63 = .ok (.ifCond .eq 5, 3) := by decide +kernel
theorem dX8_call_66 : decode cX8_call 66 = .ok (.iconst 0, 1) := by decide +kernel
theorem dX8_call_67 : decode cX8_call 67 = .ok (.ireturn, 1) := by decide +kernel
theorem dX8_call_68 : decode cX8_call 68 = .ok (.aload_n 0, 1) := by decide +kernel
theorem dX8_call_69 : decode cX8_call 69 = .ok (.getfield 135, 3) := by decide +kernel
theorem dX8_call_72 : decode cX8_call 72 = .ok (.istore 5, 2) := by decide +kernel
theorem dX8_call_74 : decode cX8_call 74 = .ok (.aload_n 0, 1) := by decide +kernel
theorem dX8_call_75 : decode cX8_call 75 = .ok (.iload_n 1, 1) := by decide +kernel
theorem dX8_call_76 : decode cX8_call 76 = .ok (.iload_n 2, 1) := by decide +kernel
theorem dX8_call_77 : decode cX8_call 77 = .ok (.iload_n 3, 1) := by decide +kernel
theorem dX8_call_78 : decode cX8_call 78 = .ok (.iload 4, 2) := by decide +kernel
theorem dX8_call_80 : decode cX8_call 80 = .ok (.invokevirtual 194, 3) := by decide +kernel
theorem dX8_call_83 : decode cX8_call 83 = .ok (.aload_n 0, 1) := by decide +kernel
theorem dX8_call_84 : decode cX8_call 84 = .ok (.invokevirtual 117, 3) := by decide +kernel
theorem dX8_call_87 : decode cX8_call 87 = .ok (.iload 5, 2) := by decide +kernel
theorem dX8_call_89 : decode cX8_call 89 = .ok (.ireturn, 1) := by decide +kernel
theorem dX8_isNoCall_0 : decode cX8_isNoCall 0 = .ok (.iload_n 1, 1) := by decide +kernel
theorem dX8_isNoCall_1 : decode cX8_isNoCall 1 = .ok (.iconst 0, 1) := by decide +kernel
theorem dX8_isNoCall_2 : decode cX8_isNoCall 2 = .ok (.aload_n 0, 1) := by decide +kernel
theorem dX8_isNoCall_3 : decode cX8_isNoCall 3 = .ok (.getfield 135, 3) := by decide +kernel
theorem dX8_isNoCall_6 : decode cX8_isNoCall 6 = .ok (.iconst 1, 1) := by decide +kernel
theorem dX8_isNoCall_7 : decode cX8_isNoCall 7 = .ok (.isub, 1) := by decide +kernel
theorem dX8_isNoCall_8 : decode cX8_isNoCall 8 = .ok (.invokestatic 91, 3) := by decide +kernel
theorem dX8_isNoCall_11 : decode cX8_isNoCall 11 = .ok (.ifCond .ne 7, 3) := by decide +kernel
theorem dX8_isNoCall_14 : decode cX8_isNoCall 14 = .ok (.iconst 1, 1) := by decide +kernel
theorem dX8_isNoCall_15 : decode cX8_isNoCall 15 = .ok (.goto 4, 3) := by decide +kernel
theorem dX8_isNoCall_18 : decode cX8_isNoCall 18 = .ok (.iconst 0, 1) := by decide +kernel
theorem dX8_isNoCall_19 : decode cX8_isNoCall 19 = .ok (.ireturn, 1) := by decide +kernel
theorem dX8_isOver_0 : decode cX8_isOver 0 = .ok (.aload_n 0, 1) := by decide +kernel
theorem dX8_isOver_1 : decode cX8_isOver 1 = .ok (.getfield 48, 3) := by decide +kernel
theorem dX8_isOver_4 : decode cX8_isOver 4 = .ok (.iload_n 1, 1) := by decide +kernel
theorem dX8_isOver_5 : decode cX8_isOver 5 = .ok (.caload, 1) := by decide +kernel
theorem dX8_isOver_6 : decode cX8_isOver 6 = .ok (.bipush 101, 2) := by decide +kernel
theorem dX8_isOver_8 : decode cX8_isOver 8 = .ok (.if_icmp .eq 14, 3) := by decide +kernel
theorem dX8_isOver_11 : decode cX8_isOver 11 = .ok (.aload_n 0, 1) := by decide +kernel
theorem dX8_isOver_12 : decode cX8_isOver 12 = .ok (.getfield 48, 3) := by decide +kernel
theorem dX8_isOver_15 : decode cX8_isOver 15 = .ok (.iload_n 1, 1) := by decide +kernel
theorem dX8_isOver_16 : decode cX8_isOver 16 = .ok (.caload, 1) := by decide +kernel
theorem dX8_isOver_17 : decode cX8_isOver 17 = .ok (.bipush 99, 2) := by decide +kernel
theorem dX8_isOver_19 : decode cX8_isOver 19 = .ok (.if_icmp .ne 7, 3) := by decide +kernel
theorem dX8_isOver_22 : decode cX8_isOver 22 = .ok (.iconst 1, 1) := by decide +kernel
theorem dX8_isOver_23 : decode cX8_isOver 23 = .ok (.goto 4, 3) := by decide +kernel
theorem dX8_isOver_26 : decode cX8_isOver 26 = .ok (.iconst 0, 1) := by decide +kernel
theorem dX8_isOver_27 : decode cX8_isOver 27 = .ok (.ireturn, 1) := by decide +kernel
theorem dX8_cancel_0 : decode cX8_cancel 0 = .ok (.aload_n 0, 1) := by decide +kernel
theorem dX8_cancel_1 : decode cX8_cancel 1 = .ok (.aload_n 0, 1) := by decide +kernel
theorem dX8_cancel_2 : decode cX8_cancel 2 = .ok (.iload_n 1, 1) := by decide +kernel
theorem dX8_cancel_3 : decode cX8_cancel 3 = .ok (.invokevirtual 197, 3) := by decide +kernel
theorem dX8_cancel_6 : decode cX8_cancel 6 = .ok (.ifCond .eq 7, 3) := by decide +kernel
theorem dX8_cancel_9 : decode cX8_cancel 9 = .ok (.iconst 1, 1) := by decide +kernel
theorem dX8_cancel_10 : decode cX8_cancel 10 = .ok (.goto 16, 3) := by decide +kernel
theorem dX8_cancel_13 : decode cX8_cancel 13 = .ok (.aload_n 0, 1) := by decide +kernel
theorem dX8_cancel_14 : decode cX8_cancel 14 = .ok (.iload_n 1, 1) := by decide +kernel
theorem dX8_cancel_15 : decode cX8_cancel 15 = .ok (.invokevirtual 200, 3) := by decide +kernel
theorem dX8_cancel_18 : decode cX8_cancel 18 = .ok (.ifCond .eq 7, 3) := by decide +kernel
theorem dX8_cancel_21 : decode cX8_cancel 21 = .ok (.iconst 2, 1) := by decide +kernel
theorem dX8_cancel_22 : decode cX8_cancel 22 = .ok (.goto 4, 3) := by decide +kernel
theorem dX8_cancel_25 : decode cX8_cancel 25 = .ok (.iconst 0, 1) := by decide +kernel
theorem dX8_cancel_26 : decode cX8_cancel 26 = .ok (.invokevirtual 113, 3) := by decide +kernel
theorem dX8_cancel_29 : decode cX8_cancel 29 = .ok (.ifCond .eq 5, 3) := by decide +kernel
theorem dX8_cancel_32 : decode cX8_cancel 32 = .ok (.iconst 0, 1) := by decide +kernel
theorem dX8_cancel_33 : decode cX8_cancel 33 = .ok (.ireturn, 1) := by decide +kernel
theorem dX8_cancel_34 : decode cX8_cancel 34 = .ok (.aload_n 0, 1) := by decide +kernel
theorem dX8_cancel_35 : decode cX8_cancel 35 = .ok (.getfield 48, 3) := by decide +kernel
theorem dX8_cancel_38 : decode cX8_cancel 38 = .ok (.iload_n 1, 1) := by decide +kernel
theorem dX8_cancel_39 : decode cX8_cancel 39 = .ok (.bipush 99, 2) := by decide +kernel
theorem dX8_cancel_41 : decode cX8_cancel 41 = .ok (.castore, 1) := by decide +kernel
theorem dX8_cancel_42 : decode cX8_cancel 42 = .ok (.aload_n 0, 1) := by decide +kernel
theorem dX8_cancel_43 : decode cX8_cancel 43 = .ok (.bipush 99, 2) := by decide +kernel
theorem dX8_cancel_45 : decode cX8_cancel 45 = .ok (.iload_n 1, 1) := by decide +kernel
theorem dX8_cancel_46 : decode cX8_cancel 46 = .ok (.invokevirtual 162, 3) := by decide +kernel
theorem dX8_cancel_49 : decode cX8_cancel 49 = .ok (.aload_n 0, 1) := by decide +kernel
theorem dX8_cancel_50 : decode cX8_cancel 50 = .ok (.invokevirtual 117, 3) := by decide +kernel
theorem dX8_cancel_53 : decode cX8_cancel 53 = .ok (.aload_n 0, 1) := by decide +kernel
theorem dX8_cancel_54 : decode cX8_cancel 54 = .ok (.getfield 45, 3) := by decide +kernel
theorem dX8_cancel_57 : decode cX8_cancel 57 = .ok (.iload_n 1, 1) := by decide +kernel
theorem dX8_cancel_58 : decode cX8_cancel 58 = .ok (.iaload, 1) := by decide +kernel
theorem dX8_cancel_59 : decode cX8_cancel 59 = .ok (.ireturn, 1) := by decide +kernel
theorem dX8_raise_0 : decode cX8_raise 0 = .ok (.aload_n 0, 1) := by decide +kernel
theorem dX8_raise_1 : decode cX8_raise 1 = .ok (.aload_n 0, 1) := by decide +kernel
theorem dX8_raise_2 : decode cX8_raise 2 = .ok (.iload_n 1, 1) := by decide +kernel
theorem dX8_raise_3 : decode cX8_raise 3 = .ok (.invokevirtual 197, 3) := by decide +kernel
theorem dX8_raise_6 : decode cX8_raise 6 = .ok (.ifCond .eq 7, 3) := by decide +kernel
theorem dX8_raise_9 : decode cX8_raise 9 = .ok (.iconst 1, 1) := by decide +kernel
theorem dX8_raise_10 : decode cX8_raise 10 = .ok (.goto 44, 3) := by decide +kernel
theorem dX8_raise_13 : decode cX8_raise 13 = .ok (.iload_n 2, 1) := by decide +kernel
theorem dX8_raise_14 : decode cX8_raise 14 = .ok (.invokestatic 145, 3) := by decide +kernel
theorem dX8_raise_17 : decode cX8_raise 17 = .ok (.iconst 1, 1) := by decide +kernel
theorem dX8_raise_18 : decode cX8_raise 18 = .ok (.if_icmp .ge 7, 3) := by decide +kernel
theorem dX8_raise_21 : decode cX8_raise 21 = .ok (.iconst 2, 1) := by decide +kernel
theorem dX8_raise_22 : decode cX8_raise 22 = .ok (.goto 32, 3) := by decide +kernel
theorem dX8_raise_25 : decode cX8_raise 25 = .ok (.aload_n 0, 1) := by decide +kernel
theorem dX8_raise_26 : decode cX8_raise 26 = .ok (.iload_n 1, 1) := by decide +kernel
theorem dX8_raise_27 : decode cX8_raise 27 = .ok (.invokevirtual 200, 3) := by decide +kernel
theorem dX8_raise_30 : decode cX8_raise 30 = .ok (.ifCond .ne 19, 3) := by decide +kernel
theorem dX8_raise_33 : decode cX8_raise 33 = .ok (.aload_n 0, 1) := by decide +kernel
theorem dX8_raise_34 : decode cX8_raise 34 = .ok (.getfield 41, 3) := by decide +kernel
theorem dX8_raise_37 : decode cX8_raise 37 = .ok (.iload_n 1, 1) := by decide +kernel
theorem dX8_raise_38 : decode cX8_raise 38 = .ok (.caload, 1) := by decide +kernel
theorem dX8_raise_39 : decode cX8_raise 39 = .ok (.invokestatic 145, 3) := by decide +kernel
theorem dX8_raise_42 : decode cX8_raise 42 = .ok (.iload_n 2, 1) := by decide +kernel
theorem dX8_raise_43 : decode cX8_raise 43 = .ok (.invokestatic 145, 3) := by decide +kernel
theorem dX8_raise_46 : decode cX8_raise 46 = .ok (.if_icmp .lt 7, 3) := by decide +kernel
theorem dX8_raise_49 : decode cX8_raise 49 = .ok (.iconst 3, 1) := by decide +kernel
theorem dX8_raise_50 : decode cX8_raise 50 = .ok (.goto 4, 3) := by decide +kernel
theorem dX8_raise_53 : decode cX8_raise 53 = .ok (.iconst 0, 1) := by decide +kernel
theorem dX8_raise_54 : decode cX8_raise 54 = .ok (.invokevirtual 113, 3) := by decide +kernel
theorem dX8_raise_57 : decode cX8_raise 57 = .ok (.ifCond .eq 6, 3) := by decide +kernel
theorem dX8_raise_60 : decode cX8_raise 60 = .ok (.bipush 97, 2) := by decide +kernel
theorem dX8_raise_62 : decode cX8_raise 62 = .ok (.ireturn, 1) := by decide +kernel
theorem dX8_raise_63 : decode cX8_raise 63 = .ok (.aload_n 0, 1) := by decide +kernel
theorem dX8_raise_64 : decode cX8_raise 64 = .ok (.getfield 41, 3) := by decide +kernel
theorem dX8_raise_67 : decode cX8_raise 67 = .ok (.iload_n 1, 1) := by decide +kernel
theorem dX8_raise_68 : decode cX8_raise 68 = .ok (.caload, 1) := by decide +kernel
theorem dX8_raise_69 : decode cX8_raise 69 = .ok (.istore_n 3, 1) := by decide +kernel
theorem dX8_raise_70 : decode cX8_raise 70 = .ok (.aload_n 0, 1) := by decide +kernel
theorem dX8_raise_71 : decode cX8_raise 71 = .ok (.getfield 41, 3) := by decide +kernel
theorem dX8_raise_74 : decode cX8_raise 74 = .ok (.iload_n 1, 1) := by decide +kernel
theorem dX8_raise_75 : decode cX8_raise 75 = .ok (.iload_n 2, 1) := by decide +kernel
theorem dX8_raise_76 : decode cX8_raise 76 = .ok (.castore, 1) := by decide +kernel
theorem dX8_raise_77 : decode cX8_raise 77 = .ok (.aload_n 0, 1) := by decide +kernel
theorem dX8_raise_78 : decode cX8_raise 78 = .ok (.invokevirtual 117, 3) := by decide +kernel
theorem dX8_raise_81 : decode cX8_raise 81 = .ok (.iload_n 3, 1) := by decide +kernel
theorem dX8_raise_82 : decode cX8_raise 82 = .ok (.ireturn, 1) := by decide +kernel
theorem dX8_stateOf_0 : decode cX8_stateOf 0 = .ok (.aload_n 0, 1) := by decide +kernel
theorem dX8_stateOf_1 : decode cX8_stateOf 1 = .ok (.aload_n 0, 1) := by decide +kernel
theorem dX8_stateOf_2 : decode cX8_stateOf 2 = .ok (.iload_n 1, 1) := by decide +kernel
theorem dX8_stateOf_3 : decode cX8_stateOf 3 = .ok (.invokevirtual 197, 3) := by decide +kernel
theorem dX8_stateOf_6 : decode cX8_stateOf 6 = .ok (.ifCond .eq 7, 3) := by decide +kernel
theorem dX8_stateOf_9 : decode cX8_stateOf 9 = .ok (.iconst 1, 1) := by decide +kernel
theorem dX8_stateOf_10 : decode cX8_stateOf 10 = .ok (.goto 4, 3) := by decide +kernel
theorem dX8_stateOf_13 : decode cX8_stateOf 13 = .ok (.iconst 0, 1) := by decide +kernel
theorem dX8_stateOf_14 : decode cX8_stateOf 14 = .ok (.invokevirtual 113, 3) := by decide +kernel
theorem dX8_stateOf_17 : decode cX8_stateOf 17 = .ok (.ifCond .eq 8, 3) := by decide +kernel
theorem dX8_stateOf_20 : decode cX8_stateOf 20 = .ok (.bipush 97, 2) := by decide +kernel
theorem dX8_stateOf_22 : decode cX8_stateOf 22 = .ok (.goto 9, 3) := by decide +kernel
theorem dX8_stateOf_25 : decode cX8_stateOf 25 = .ok (.aload_n 0, 1) := by decide +kernel
theorem dX8_stateOf_26 : decode cX8_stateOf 26 = .ok (.getfield 48, 3) := by decide +kernel
theorem dX8_stateOf_29 : decode cX8_stateOf 29 = .ok (.iload_n 1, 1) := by decide +kernel
theorem dX8_stateOf_30 : decode cX8_stateOf 30 = .ok (.caload, 1) := by decide +kernel
theorem dX8_stateOf_31 : decode cX8_stateOf 31 = .ok (.ireturn, 1) := by decide +kernel
theorem dX8_urgencyOf_0 : decode cX8_urgencyOf 0 = .ok (.aload_n 0, 1) := by decide +kernel
theorem dX8_urgencyOf_1 : decode cX8_urgencyOf 1 = .ok (.aload_n 0, 1) := by decide +kernel
theorem dX8_urgencyOf_2 : decode cX8_urgencyOf 2 = .ok (.iload_n 1, 1) := by decide +kernel
theorem dX8_urgencyOf_3 : decode cX8_urgencyOf 3 = .ok (.invokevirtual 197, 3) := by decide +kernel
theorem dX8_urgencyOf_6 : decode cX8_urgencyOf 6 = .ok (.ifCond .eq 7, 3) := by decide +kernel
theorem dX8_urgencyOf_9 : decode cX8_urgencyOf 9 = .ok (.iconst 1, 1) := by decide +kernel
theorem dX8_urgencyOf_10 : decode cX8_urgencyOf 10 = .ok (.goto 4, 3) := by decide +kernel
theorem dX8_urgencyOf_13 : decode cX8_urgencyOf 13 = .ok (.iconst 0, 1) := by decide +kernel
theorem dX8_urgencyOf_14 : decode cX8_urgencyOf 14 = .ok (.invokevirtual 113, 3) := by decide +kernel
theorem dX8_urgencyOf_17 : decode cX8_urgencyOf 17 = .ok (.ifCond .eq 8, 3) := by decide +kernel
theorem dX8_urgencyOf_20 : decode cX8_urgencyOf 20 = .ok (.bipush 97, 2) := by decide +kernel
theorem dX8_urgencyOf_22 : decode cX8_urgencyOf 22 = .ok (.goto 9, 3) := by decide +kernel
theorem dX8_urgencyOf_25 : decode cX8_urgencyOf 25 = .ok (.aload_n 0, 1) := by decide +kernel
theorem dX8_urgencyOf_26 : decode cX8_urgencyOf 26 = .ok (.getfield 41, 3) := by decide +kernel
theorem dX8_urgencyOf_29 : decode cX8_urgencyOf 29 = .ok (.iload_n 1, 1) := by decide +kernel
theorem dX8_urgencyOf_30 : decode cX8_urgencyOf 30 = .ok (.caload, 1) := by decide +kernel
theorem dX8_urgencyOf_31 : decode cX8_urgencyOf 31 = .ok (.ireturn, 1) := by decide +kernel
theorem dX8_leftOf_0 : decode cX8_leftOf 0 = .ok (.aload_n 0, 1) := by decide +kernel
theorem dX8_leftOf_1 : decode cX8_leftOf 1 = .ok (.aload_n 0, 1) := by decide +kernel
theorem dX8_leftOf_2 : decode cX8_leftOf 2 = .ok (.iload_n 1, 1) := by decide +kernel
theorem dX8_leftOf_3 : decode cX8_leftOf 3 = .ok (.invokevirtual 197, 3) := by decide +kernel
theorem dX8_leftOf_6 : decode cX8_leftOf 6 = .ok (.ifCond .eq 7, 3) := by decide +kernel
theorem dX8_leftOf_9 : decode cX8_leftOf 9 = .ok (.iconst 1, 1) := by decide +kernel
theorem dX8_leftOf_10 : decode cX8_leftOf 10 = .ok (.goto 4, 3) := by decide +kernel
theorem dX8_leftOf_13 : decode cX8_leftOf 13 = .ok (.iconst 0, 1) := by decide +kernel
theorem dX8_leftOf_14 : decode cX8_leftOf 14 = .ok (.invokevirtual 113, 3) := by decide +kernel
theorem dX8_leftOf_17 : decode cX8_leftOf 17 = .ok (.ifCond .eq 7, 3) := by decide +kernel
theorem dX8_leftOf_20 : decode cX8_leftOf 20 = .ok (.iconst 0, 1) := by decide +kernel
theorem dX8_leftOf_21 : decode cX8_leftOf 21 = .ok (.goto 9, 3) := by decide +kernel
theorem dX8_leftOf_24 : decode cX8_leftOf 24 = .ok (.aload_n 0, 1) := by decide +kernel
theorem dX8_leftOf_25 : decode cX8_leftOf 25 = .ok (.getfield 45, 3) := by decide +kernel
theorem dX8_leftOf_28 : decode cX8_leftOf 28 = .ok (.iload_n 1, 1) := by decide +kernel
theorem dX8_leftOf_29 : decode cX8_leftOf 29 = .ok (.iaload, 1) := by decide +kernel
theorem dX8_leftOf_30 : decode cX8_leftOf 30 = .ok (.ireturn, 1) := by decide +kernel
theorem dX8_channelOf_0 : decode cX8_channelOf 0 = .ok (.aload_n 0, 1) := by decide +kernel
theorem dX8_channelOf_1 : decode cX8_channelOf 1 = .ok (.aload_n 0, 1) := by decide +kernel
theorem dX8_channelOf_2 : decode cX8_channelOf 2 = .ok (.iload_n 1, 1) := by decide +kernel
theorem dX8_channelOf_3 : decode cX8_channelOf 3 = .ok (.invokevirtual 197, 3) := by decide +kernel
theorem dX8_channelOf_6 : decode cX8_channelOf 6 = .ok (.ifCond .eq 7, 3) := by decide +kernel
theorem dX8_channelOf_9 : decode cX8_channelOf 9 = .ok (.iconst 1, 1) := by decide +kernel
theorem dX8_channelOf_10 : decode cX8_channelOf 10 = .ok (.goto 19, 3) := by decide +kernel
theorem dX8_channelOf_13 : decode cX8_channelOf 13 = .ok (.aload_n 0, 1) := by decide +kernel
theorem dX8_channelOf_14 : decode cX8_channelOf 14 = .ok (.getfield 48, 3) := by decide +kernel
theorem dX8_channelOf_17 : decode cX8_channelOf 17 = .ok (.iload_n 1, 1) := by decide +kernel
theorem dX8_channelOf_18 : decode cX8_channelOf 18 = .ok (.caload, 1) := by decide +kernel
theorem dX8_channelOf_19 : decode cX8_channelOf 19 = .ok (.bipush 115, 2) := by decide +kernel
theorem dX8_channelOf_21 : decode cX8_channelOf 21 = .ok (.if_icmp .eq 7, 3) := by decide +kernel
theorem dX8_channelOf_24 : decode cX8_channelOf 24 = .ok (.iconst 2, 1) := by decide +kernel
theorem dX8_channelOf_25 : decode cX8_channelOf 25 = .ok (.goto 4, 3) := by decide +kernel
theorem dX8_channelOf_28 : decode cX8_channelOf 28 = .ok (.iconst 0, 1) := by decide +kernel
theorem dX8_channelOf_29 : decode cX8_channelOf 29 = .ok (.invokevirtual 113, 3) := by decide +kernel
theorem dX8_channelOf_32 : decode cX8_channelOf 32 = .ok (.ifCond .eq 7, 3) := by decide +kernel
theorem dX8_channelOf_35 : decode cX8_channelOf 35 = .ok (.iconst 0, 1) := by decide +kernel
theorem dX8_channelOf_36 : decode cX8_channelOf 36 = .ok (.goto 9, 3) := by decide +kernel
theorem dX8_channelOf_39 : decode cX8_channelOf 39 = .ok (.aload_n 0, 1) := by decide +kernel
theorem dX8_channelOf_40 : decode cX8_channelOf 40 = .ok (.getfield 51, 3) := by decide +kernel
theorem dX8_channelOf_43 : decode cX8_channelOf 43 = .ok (.iload_n 1, 1) := by decide +kernel
theorem dX8_channelOf_44 : decode cX8_channelOf 44 = .ok (.iaload, 1) := by decide +kernel
theorem dX8_channelOf_45 : decode cX8_channelOf 45 = .ok (.ireturn, 1) := by decide +kernel
theorem dX8_interruptions_0 : decode cX8_interruptions 0 = .ok (.aload_n 0, 1) := by decide +kernel
theorem dX8_interruptions_1 : decode cX8_interruptions 1 = .ok (.aload_n 0, 1) := by decide +kernel
theorem dX8_interruptions_2 : decode cX8_interruptions 2 = .ok (.iload_n 1, 1) := by decide +kernel
theorem dX8_interruptions_3 : decode cX8_interruptions 3 = .ok (.invokevirtual 197, 3) := by decide +kernel
theorem dX8_interruptions_6 : decode cX8_interruptions 6 = .ok (.ifCond .eq 7, 3) := by decide +kernel
theorem dX8_interruptions_9 : decode cX8_interruptions 9 = .ok (.iconst 1, 1) := by decide +kernel
theorem dX8_interruptions_10 : decode cX8_interruptions 10 = .ok (.goto 4, 3) := by decide +kernel
theorem dX8_interruptions_13 : decode cX8_interruptions 13 = .ok (.iconst 0, 1) := by decide +kernel
theorem dX8_interruptions_14 : decode cX8_interruptions 14 = .ok (.invokevirtual 113, 3) := by decide +kernel
theorem dX8_interruptions_17 : decode cX8_interruptions 17 = .ok (.ifCond .eq 7, 3) := by decide +kernel
theorem dX8_interruptions_20 : decode cX8_interruptions 20 = .ok (.iconst 0, 1) := by decide +kernel
theorem dX8_interruptions_21 : decode cX8_interruptions 21 = .ok (.goto 9, 3) := by decide +kernel
theorem dX8_interruptions_24 : decode cX8_interruptions 24 = .ok (.aload_n 0, 1) := by decide +kernel
theorem dX8_interruptions_25 : decode cX8_interruptions 25 = .ok (.getfield 60, 3) := by decide +kernel
theorem dX8_interruptions_28 : decode cX8_interruptions 28 = .ok (.iload_n 1, 1) := by decide +kernel
theorem dX8_interruptions_29 : decode cX8_interruptions 29 = .ok (.iaload, 1) := by decide +kernel
theorem dX8_interruptions_30 : decode cX8_interruptions 30 = .ok (.ireturn, 1) := by decide +kernel
theorem dX8_isNoChannel_0 : decode cX8_isNoChannel 0 = .ok (.iload_n 1, 1) := by decide +kernel
theorem dX8_isNoChannel_1 : decode cX8_isNoChannel 1 = .ok (.iconst 0, 1) := by decide +kernel
theorem dX8_isNoChannel_2 : decode cX8_isNoChannel 2 = .ok (.iconst 2, 1) := by decide +kernel
theorem dX8_isNoChannel_3 : decode cX8_isNoChannel 3 = .ok (.invokestatic 91, 3) := by decide +kernel
theorem dX8_isNoChannel_6 : decode cX8_isNoChannel 6 = .ok (.ifCond .ne 7, 3) := by decide +kernel
theorem dX8_isNoChannel_9 : decode cX8_isNoChannel 9 = .ok (.iconst 1, 1) := by decide +kernel
theorem dX8_isNoChannel_10 : decode cX8_isNoChannel 10 = .ok (.goto 4, 3) := by decide +kernel
theorem dX8_isNoChannel_13 : decode cX8_isNoChannel 13 = .ok (.iconst 0, 1) := by decide +kernel
theorem dX8_isNoChannel_14 : decode cX8_isNoChannel 14 = .ok (.ireturn, 1) := by decide +kernel
theorem dX8_speakerOn_0 : decode cX8_speakerOn 0 = .ok (.aload_n 0, 1) := by decide +kernel
theorem dX8_speakerOn_1 : decode cX8_speakerOn 1 = .ok (.aload_n 0, 1) := by decide +kernel
theorem dX8_speakerOn_2 : decode cX8_speakerOn 2 = .ok (.iload_n 1, 1) := by decide +kernel
theorem dX8_speakerOn_3 : decode cX8_speakerOn 3 = .ok (.invokevirtual 203, 3) := by decide +kernel
theorem dX8_speakerOn_6 : decode cX8_speakerOn 6 = .ok (.ifCond .eq 7, 3) := by decide +kernel
theorem dX8_speakerOn_9 : decode cX8_speakerOn 9 = .ok (.iconst 1, 1) := by decide +kernel
theorem dX8_speakerOn_10 : decode cX8_speakerOn 10 = .ok (.goto 16, 3) := by decide +kernel
theorem dX8_speakerOn_13 : decode cX8_speakerOn 13 = .ok (.aload_n 0, 1) := by decide +kernel
theorem dX8_speakerOn_14 : decode cX8_speakerOn 14 = .ok (.iload_n 1, 1) := by decide +kernel
theorem dX8_speakerOn_15 : decode cX8_speakerOn 15 = .ok (.invokevirtual 153, 3) := by decide +kernel
theorem dX8_speakerOn_18 : decode cX8_speakerOn 18 = .ok (.ifCond .ge 7, 3) := by decide +kernel
theorem dX8_speakerOn_21 : decode cX8_speakerOn 21 = .ok (.iconst 2, 1) := by decide +kernel
theorem dX8_speakerOn_22 : decode cX8_speakerOn 22 = .ok (.goto 4, 3) := by decide +kernel
theorem dX8_speakerOn_25 : decode cX8_speakerOn 25 = .ok (.iconst 0, 1) := by decide +kernel
theorem dX8_speakerOn_26 : decode cX8_speakerOn 26 = .ok (.invokevirtual 113, 3) := by decide +kernel
theorem dX8_speakerOn_29 : decode cX8_speakerOn 29 = .ok (.ifCond .eq 7, 3) := by decide +kernel
theorem dX8_speakerOn_32 : decode cX8_speakerOn 32 = .ok (.iconst 0, 1) := by decide +kernel
theorem dX8_speakerOn_33 : decode cX8_speakerOn 33 = .ok (.goto 8, 3) := by decide +kernel
theorem dX8_speakerOn_36 : decode cX8_speakerOn 36 = .ok (.aload_n 0, 1) := by decide +kernel
theorem dX8_speakerOn_37 : decode cX8_speakerOn 37 = .ok (.iload_n 1, 1) := by decide +kernel
theorem dX8_speakerOn_38 : decode cX8_speakerOn 38 = .ok (.invokevirtual 153, 3) := by decide +kernel
theorem dX8_speakerOn_41 : decode cX8_speakerOn 41 = .ok (.ireturn, 1) := by decide +kernel
theorem dX8_calls_0 : decode cX8_calls 0 = .ok (.aload_n 0, 1) := by decide +kernel
theorem dX8_calls_1 : decode cX8_calls 1 = .ok (.aload_n 0, 1) := by decide +kernel
theorem dX8_calls_2 : decode cX8_calls 2 = .ok (.getfield 135, 3) := by decide +kernel
theorem dX8_calls_5 : decode cX8_calls 5 = .ok (.invokevirtual 129, 3) := by decide +kernel
theorem dX8_calls_8 : decode cX8_calls 8 = .ok (.ireturn, 1) := by decide +kernel
theorem dX8_waiting_0 : decode cX8_waiting 0 = .ok (.aload_n 0, 1) := by decide +kernel
theorem dX8_waiting_1 : decode cX8_waiting 1 = .ok (.aload_n 0, 1) := by decide +kernel
theorem dX8_waiting_2 : decode cX8_waiting 2 = .ok (.bipush 119, 2) := by decide +kernel
theorem dX8_waiting_4 : decode cX8_waiting 4 = .ok (.invokevirtual 187, 3) := by decide +kernel
theorem dX8_waiting_7 : decode cX8_waiting 7 = .ok (.invokevirtual 129, 3) := by decide +kernel
theorem dX8_waiting_10 : decode cX8_waiting 10 = .ok (.ireturn, 1) := by decide +kernel
theorem dX8_lined_0 : decode cX8_lined 0 = .ok (.iconst 0, 1) := by decide +kernel
theorem dX8_lined_1 : decode cX8_lined 1 = .ok (.istore_n 2, 1) := by decide +kernel
theorem dX8_lined_2 : decode cX8_lined 2 = .ok (.iconst 3, 1) := by decide +kernel
theorem dX8_lined_3 : decode cX8_lined 3 = .ok (.istore_n 3, 1) := by decide +kernel
theorem dX8_lined_4 : decode cX8_lined 4 = .ok (.iload_n 3, 1) := by decide +kernel
theorem dX8_lined_5 : decode cX8_lined 5 = .ok (.ifCond .lt 71, 3) := by decide +kernel
theorem dX8_lined_8 : decode cX8_lined 8 = .ok (.iconst 0, 1) := by decide +kernel
theorem dX8_lined_9 : decode cX8_lined 9 = .ok (.istore 4, 2) := by decide +kernel
theorem dX8_lined_11 : decode cX8_lined 11 = .ok (.iload 4, 2) := by decide +kernel
theorem dX8_lined_13 : decode cX8_lined 13 = .ok (.aload_n 0, 1) := by decide +kernel
theorem dX8_lined_14 : decode cX8_lined 14 = .ok (.getfield 135, 3) := by decide +kernel
theorem dX8_lined_17 : decode cX8_lined 17 = .ok (.if_icmp .ge 53, 3) := by decide +kernel
theorem dX8_lined_20 : decode cX8_lined 20 = .ok (.aload_n 0, 1) := by decide +kernel
theorem dX8_lined_21 : decode cX8_lined 21 = .ok (.getfield 48, 3) := by decide +kernel
theorem dX8_lined_24 : decode cX8_lined 24 = .ok (.iload 4, 2) := by decide +kernel
theorem dX8_lined_26 : decode cX8_lined 26 = .ok (.caload, 1) := by decide +kernel
theorem dX8_lined_27 : decode cX8_lined 27 = .ok (.bipush 119, 2) := by decide +kernel
theorem dX8_lined_29 : decode cX8_lined 29 = .ok (.if_icmp .ne 35, 3) := by decide +kernel
theorem dX8_lined_32 : decode cX8_lined 32 = .ok (.aload_n 0, 1) := by decide +kernel
theorem dX8_lined_33 : decode cX8_lined 33 = .ok (.getfield 41, 3) := by decide +kernel
theorem dX8_lined_36 : decode cX8_lined 36 = .ok (.iload 4, 2) := by decide +kernel
theorem dX8_lined_38 : decode cX8_lined 38 = .ok (.caload, 1) := by decide +kernel
theorem dX8_lined_39 : decode cX8_lined 39 = .ok (.invokestatic 145, 3) := by decide +kernel
theorem dX8_lined_42 : decode cX8_lined 42 = .ok (.iload_n 3, 1) := by decide +kernel
theorem dX8_lined_43 : decode cX8_lined 43 = .ok (.if_icmp .eq 6, 3) := by decide +kernel
theorem dX8_lined_46 : decode cX8_lined 46 = .ok (.goto 18, 3) := by decide +kernel
theorem dX8_lined_49 : decode cX8_lined 49 = .ok (.iload_n 2, 1) := by decide +kernel
theorem dX8_lined_50 : decode cX8_lined 50 = .ok (.iload_n 1, 1) := by decide +kernel
theorem dX8_lined_51 : decode cX8_lined 51 = .ok (.if_icmp .ne 10, 3) := by decide +kernel
theorem dX8_lined_54 : decode cX8_lined 54 = .ok (.aload_n 0, 1) := by decide +kernel
theorem dX8_lined_55 : decode cX8_lined 55 = .ok (.iload 4, 2) := by decide +kernel
theorem dX8_lined_57 : decode cX8_lined 57 = .ok (.invokevirtual 129, 3) := by decide +kernel
theorem dX8_lined_60 : decode cX8_lined 60 = .ok (.ireturn, 1) := by decide +kernel
theorem dX8_lined_61 : decode cX8_lined 61 = .ok (.iinc 2 1, 3) := by decide +kernel
theorem dX8_lined_64 : decode cX8_lined 64 = .ok (.iinc 4 1, 3) := by decide +kernel
theorem dX8_lined_67 : decode cX8_lined 67 = .ok (.goto (-56), 3) := by decide +kernel
theorem dX8_lined_70 : decode cX8_lined 70 = .ok (.iinc 3 (-1), 3) := by decide +kernel
theorem dX8_lined_73 : decode cX8_lined 73 = .ok (.goto (-69), 3) := by decide +kernel
theorem dX8_lined_76 : decode cX8_lined 76 = .ok (.aload_n 0, 1) := by decide +kernel
theorem dX8_lined_77 : decode cX8_lined 77 = .ok (.iconst 1, 1) := by decide +kernel
theorem dX8_lined_78 : decode cX8_lined 78 = .ok (.putfield 78, 3) := by decide +kernel
theorem dX8_lined_81 : decode cX8_lined 81 = .ok (.iconst 0, 1) := by decide +kernel
theorem dX8_lined_82 : decode cX8_lined 82 = .ok (.ireturn, 1) := by decide +kernel
theorem dX8_inLine_0 : decode cX8_inLine 0 = .ok (.aload_n 0, 1) := by decide +kernel
theorem dX8_inLine_1 : decode cX8_inLine 1 = .ok (.iload_n 1, 1) := by decide +kernel
theorem dX8_inLine_2 : decode cX8_inLine 2 = .ok (.invokevirtual 206, 3) := by decide +kernel
theorem dX8_inLine_5 : decode cX8_inLine 5 = .ok (.ireturn, 1) := by decide +kernel
theorem dX8_inLineByCounting_0 : decode cX8_inLineByCounting 0 = .ok (.aload_n 0, 1) := by decide +kernel
theorem dX8_inLineByCounting_1 : decode cX8_inLineByCounting 1 = .ok (.iload_n 1, 1) := by decide +kernel
theorem dX8_inLineByCounting_2 : decode cX8_inLineByCounting 2 = .ok (.invokevirtual 206, 3) := by decide +kernel
theorem dX8_inLineByCounting_5 : decode cX8_inLineByCounting 5 = .ok (.ireturn, 1) := by decide +kernel
theorem dX8_passes_0 : decode cX8_passes 0 = .ok (.iconst 0, 1) := by decide +kernel
theorem dX8_passes_1 : decode cX8_passes 1 = .ok (.istore_n 1, 1) := by decide +kernel
theorem dX8_passes_2 : decode cX8_passes 2 = .ok (.aload_n 0, 1) := by decide +kernel
theorem dX8_passes_3 : decode cX8_passes 3 = .ok (.dup, 1) := by decide +kernel
theorem dX8_passes_4 : decode cX8_passes 4 = .ok (.getfield 85, 3) := by decide +kernel
theorem dX8_passes_7 : decode cX8_passes 7 = .ok (.iconst 1, 1) := by decide +kernel
theorem dX8_passes_8 : decode cX8_passes 8 = .ok (.iadd, 1) := by decide +kernel
theorem dX8_passes_9 : decode cX8_passes 9 = .ok (.putfield 85, 3) := by decide +kernel
theorem dX8_passes_12 : decode cX8_passes 12 = .ok (.aload_n 0, 1) := by decide +kernel
theorem dX8_passes_13 : decode cX8_passes 13 = .ok (.dup, 1) := by decide +kernel
theorem dX8_passes_14 : decode cX8_passes 14 = .ok (.getfield 209, 3) := by decide +kernel
theorem dX8_passes_17 : decode cX8_passes 17 = .ok (.aload_n 0, 1) := by decide +kernel
theorem dX8_passes_18 : decode cX8_passes 18 = .ok (.bipush 119, 2) := by decide +kernel
theorem dX8_passes_20 : decode cX8_passes 20 = .ok (.invokevirtual 187, 3) := by decide +kernel
theorem dX8_passes_23 : decode cX8_passes 23 = .ok (.i2l, 1) := by decide +kernel
theorem dX8_passes_24 : decode cX8_passes 24 = .ok (.ladd, 1) := by decide +kernel
theorem dX8_passes_25 : decode cX8_passes 25 = .ok (.putfield 209, 3) := by decide +kernel
theorem dX8_passes_28 : decode cX8_passes 28 = .ok (.iconst 0, 1) := by decide +kernel
theorem dX8_passes_29 : decode cX8_passes 29 = .ok (.istore_n 2, 1) := by decide +kernel
theorem dX8_passes_30 : decode cX8_passes 30 = .ok (.iload_n 2, 1) := by decide +kernel
theorem dX8_passes_31 : decode cX8_passes 31 = .ok (.iconst 3, 1) := by decide +kernel
theorem dX8_passes_32 : decode cX8_passes 32 = .ok (.if_icmp .ge 72, 3) := by decide +kernel
theorem dX8_passes_35 : decode cX8_passes 35 = .ok (.aload_n 0, 1) := by decide +kernel
theorem dX8_passes_36 : decode cX8_passes 36 = .ok (.iload_n 2, 1) := by decide +kernel
theorem dX8_passes_37 : decode cX8_passes 37 = .ok (.invokevirtual 153, 3) := by decide +kernel
theorem dX8_passes_40 : decode cX8_passes 40 = .ok (.istore_n 3, 1) := by decide +kernel
theorem dX8_passes_41 : decode cX8_passes 41 = .ok (.iload_n 3, 1) := by decide +kernel
theorem dX8_passes_42 : decode cX8_passes 42 = .ok (.ifCond .ge 6, 3) := by decide +kernel
theorem dX8_passes_45 : decode cX8_passes 45 = .ok (.goto 53, 3) := by decide +kernel
theorem dX8_passes_48 : decode cX8_passes 48 = .ok (.aload_n 0, 1) := by decide +kernel
theorem dX8_passes_49 : decode cX8_passes 49 = .ok (.getfield 66, 3) := by decide +kernel
theorem dX8_passes_52 : decode cX8_passes 52 = .ok (.iload_n 2, 1) := by decide +kernel
theorem dX8_passes_53 : decode cX8_passes 53 = .ok (.dup2, 1) := by decide +kernel
theorem dX8_passes_54 : decode cX8_passes 54 = .ok (.iaload, 1) := by decide +kernel
theorem dX8_passes_55 : decode cX8_passes 55 = .ok (.iconst 1, 1) := by decide +kernel
theorem dX8_passes_56 : decode cX8_passes 56 = .ok (.iadd, 1) := by decide +kernel
theorem dX8_passes_57 : decode cX8_passes 57 = .ok (.iastore, 1) := by decide +kernel
theorem dX8_passes_58 : decode cX8_passes 58 = .ok (.aload_n 0, 1) := by decide +kernel
theorem dX8_passes_59 : decode cX8_passes 59 = .ok (.getfield 45, 3) := by decide +kernel
theorem dX8_passes_62 : decode cX8_passes 62 = .ok (.iload_n 3, 1) := by decide +kernel
theorem dX8_passes_63 : decode cX8_passes 63 = .ok (.dup2, 1) := by decide +kernel
theorem dX8_passes_64 : decode cX8_passes 64 = .ok (.iaload, 1) := by decide +kernel
theorem dX8_passes_65 : decode cX8_passes 65 = .ok (.iconst 1, 1) := by decide +kernel
theorem dX8_passes_66 : decode cX8_passes 66 = .ok (.isub, 1) := by decide +kernel
theorem dX8_passes_67 : decode cX8_passes 67 = .ok (.iastore, 1) := by decide +kernel
theorem dX8_passes_68 : decode cX8_passes 68 = .ok (.aload_n 0, 1) := by decide +kernel
theorem dX8_passes_69 : decode cX8_passes 69 = .ok (.getfield 45, 3) := by decide +kernel
theorem dX8_passes_72 : decode cX8_passes 72 = .ok (.iload_n 3, 1) := by decide +kernel
theorem dX8_passes_73 : decode cX8_passes 73 = .ok (.iaload, 1) := by decide +kernel
theorem dX8_passes_74 : decode cX8_passes 74 = .ok (.ifCond .le 6, 3) := by decide +kernel
theorem dX8_passes_77 : decode cX8_passes 77 = .ok (.goto 21, 3) := by decide +kernel
theorem dX8_passes_80 : decode cX8_passes 80 = .ok (.aload_n 0, 1) := by decide +kernel
theorem dX8_passes_81 : decode cX8_passes 81 = .ok (.getfield 48, 3) := by decide +kernel
theorem dX8_passes_84 : decode cX8_passes 84 = .ok (.iload_n 3, 1) := by decide +kernel
theorem dX8_passes_85 : decode cX8_passes 85 = .ok (.bipush 101, 2) := by decide +kernel
theorem dX8_passes_87 : decode cX8_passes 87 = .ok (.castore, 1) := by decide +kernel
theorem dX8_passes_88 : decode cX8_passes 88 = .ok (.aload_n 0, 1) := by decide +kernel
theorem dX8_passes_89 : decode cX8_passes 89 = .ok (.bipush 101, 2) := by decide +kernel
theorem dX8_passes_91 : decode cX8_passes 91 = .ok (.iload_n 3, 1) := by decide +kernel
theorem dX8_passes_92 : decode cX8_passes 92 = .ok (.invokevirtual 162, 3) := by decide +kernel
theorem dX8_passes_95 : decode cX8_passes 95 = .ok (.iinc 1 1, 3) := by decide +kernel
theorem dX8_passes_98 : decode cX8_passes 98 = .ok (.iinc 2 1, 3) := by decide +kernel
theorem dX8_passes_101 : decode cX8_passes 101 = .ok (.goto (-71), 3) := by decide +kernel
theorem dX8_passes_104 : decode cX8_passes 104 = .ok (.iconst 0, 1) := by decide +kernel
theorem dX8_passes_105 : decode cX8_passes 105 = .ok (.istore_n 2, 1) := by decide +kernel
theorem dX8_passes_106 : decode cX8_passes 106 = .ok (.iload_n 2, 1) := by decide +kernel
theorem dX8_passes_107 : decode cX8_passes 107 = .ok (.aload_n 0, 1) := by decide +kernel
theorem dX8_passes_108 : decode cX8_passes 108 = .ok (.getfield 88, 3) := by decide +kernel
theorem dX8_passes_111 : decode cX8_passes 111 = .ok (.if_icmp .ge 52, 3) := by decide +kernel
theorem dX8_passes_114 : decode cX8_passes 114 = .ok (.aload_n 0, 1) := by decide +kernel
theorem dX8_passes_115 : decode cX8_passes 115 = .ok (.getfield 16, 3) := by decide +kernel
theorem dX8_passes_118 : decode cX8_passes 118 = .ok (.iload_n 2, 1) := by decide +kernel
theorem dX8_passes_119 : decode cX8_passes 119 = .ok (.baload, 1) := by decide +kernel
theorem dX8_passes_120 : decode cX8_passes 120 = .ok (.ifCond .ne 37, 3) := by decide +kernel
theorem dX8_passes_123 : decode cX8_passes 123 = .ok (.aload_n 0, 1) := by decide +kernel
theorem dX8_passes_124 : decode cX8_passes 124 = .ok (.getfield 20, 3) := by decide +kernel
theorem dX8_passes_127 : decode cX8_passes 127 = .ok (.iload_n 2, 1) := by decide +kernel
theorem dX8_passes_128 : decode cX8_passes 128 = .ok (.iaload, 1) := by decide +kernel
theorem dX8_passes_129 : decode cX8_passes 129 = .ok (.ifCond .le 28, 3) := by decide +kernel
theorem dX8_passes_132 : decode cX8_passes 132 = .ok (.aload_n 0, 1) := by decide +kernel
theorem dX8_passes_133 : decode cX8_passes 133 = .ok (.getfield 85, 3) := by decide +kernel
theorem dX8_passes_136 : decode cX8_passes 136 = .ok (.aload_n 0, 1) := by decide +kernel
theorem dX8_passes_137 : decode cX8_passes 137 = .ok (.getfield 23, 3) := by decide +kernel
theorem dX8_passes_140 : decode cX8_passes 140 = .ok (.iload_n 2, 1) := by decide +kernel
theorem dX8_passes_141 : decode cX8_passes 141 = .ok (.iaload, 1) := by decide +kernel
theorem dX8_passes_142 : decode cX8_passes 142 = .ok (.isub, 1) := by decide +kernel
theorem dX8_passes_143 : decode cX8_passes 143 = .ok (.aload_n 0, 1) := by decide +kernel
theorem dX8_passes_144 : decode cX8_passes 144 = .ok (.getfield 20, 3) := by decide +kernel
theorem dX8_passes_147 : decode cX8_passes 147 = .ok (.iload_n 2, 1) := by decide +kernel
theorem dX8_passes_148 : decode cX8_passes 148 = .ok (.iaload, 1) := by decide +kernel
theorem dX8_passes_149 : decode cX8_passes 149 = .ok (.if_icmp .le 8, 3) := by decide +kernel
theorem dX8_passes_152 : decode cX8_passes 152 = .ok (.aload_n 0, 1) := by decide +kernel
theorem dX8_passes_153 : decode cX8_passes 153 = .ok (.iload_n 2, 1) := by decide +kernel
theorem dX8_passes_154 : decode cX8_passes 154 = .ok (.invokevirtual 213, 3) := by decide +kernel
theorem dX8_passes_157 : decode cX8_passes 157 = .ok (.iinc 2 1, 3) := by decide +kernel
theorem dX8_passes_160 : decode cX8_passes 160 = .ok (.goto (-54), 3) := by decide +kernel
theorem dX8_passes_163 : decode cX8_passes 163 = .ok (.aload_n 0, 1) := by decide +kernel
theorem dX8_passes_164 : decode cX8_passes 164 = .ok (.invokevirtual 117, 3) := by decide +kernel
theorem dX8_passes_167 : decode cX8_passes 167 = .ok (.iload_n 1, 1) := by decide +kernel
theorem dX8_passes_168 : decode cX8_passes 168 = .ok (.ireturn, 1) := by decide +kernel
theorem dX8_misses_0 : decode cX8_misses 0 = .ok (.aload_n 0, 1) := by decide +kernel
theorem dX8_misses_1 : decode cX8_misses 1 = .ok (.getfield 26, 3) := by decide +kernel
theorem dX8_misses_4 : decode cX8_misses 4 = .ok (.iload_n 1, 1) := by decide +kernel
theorem dX8_misses_5 : decode cX8_misses 5 = .ok (.dup2, 1) := by decide +kernel
theorem dX8_misses_6 : decode cX8_misses 6 = .ok (.iaload, 1) := by decide +kernel
theorem dX8_misses_7 : decode cX8_misses 7 = .ok (.iconst 1, 1) := by decide +kernel
theorem dX8_misses_8 : decode cX8_misses 8 = .ok (.iadd, 1) := by decide +kernel
theorem dX8_misses_9 : decode cX8_misses 9 = .ok (.iastore, 1) := by decide +kernel
theorem dX8_misses_10 : decode cX8_misses 10 = .ok (.aload_n 0, 1) := by decide +kernel
theorem dX8_misses_11 : decode cX8_misses 11 = .ok (.getfield 23, 3) := by decide +kernel
theorem dX8_misses_14 : decode cX8_misses 14 = .ok (.iload_n 1, 1) := by decide +kernel
theorem dX8_misses_15 : decode cX8_misses 15 = .ok (.aload_n 0, 1) := by decide +kernel
theorem dX8_misses_16 : decode cX8_misses 16 = .ok (.getfield 85, 3) := by decide +kernel
theorem dX8_misses_19 : decode cX8_misses 19 = .ok (.iastore, 1) := by decide +kernel
theorem dX8_misses_20 : decode cX8_misses 20 = .ok (.aload_n 0, 1) := by decide +kernel
theorem dX8_misses_21 : decode cX8_misses 21 = .ok (.bipush 109, 2) := by decide +kernel
theorem dX8_misses_23 : decode cX8_misses 23 = .ok (.iload_n 1, 1) := by decide +kernel
theorem dX8_misses_24 : decode cX8_misses 24 = .ok (.invokevirtual 162, 3) := by decide +kernel
theorem dX8_misses_27 : decode cX8_misses 27 = .ok (.iload_n 1, 1) := by decide +kernel
theorem dX8_misses_28 : decode cX8_misses 28 = .ok (.ifCond .le 19, 3) := by decide +kernel
theorem dX8_misses_31 : decode cX8_misses 31 = .ok (.aload_n 0, 1) := by decide +kernel
theorem dX8_misses_32 : decode cX8_misses 32 = .ok (.invokevirtual 190, 3) := by decide +kernel
theorem dX8_misses_35 : decode cX8_misses 35 = .ok (.ifCond .ne 12, 3) := by decide +kernel
theorem dX8_misses_38 : decode cX8_misses 38 = .ok (.aload_n 0, 1) := by decide +kernel
theorem dX8_misses_39 : decode cX8_misses 39 = .ok (.iconst 0, 1) := by decide +kernel
theorem dX8_misses_40 : decode cX8_misses 40 = .ok (.iload_n 1, 1) := by decide +kernel
theorem dX8_misses_41 : decode cX8_misses 41 = .ok (.bipush 115, 2) := by decide +kernel
theorem dX8_misses_43 : decode cX8_misses 43 = .ok (.iconst 1, 1) := by decide +kernel
theorem dX8_misses_44 : decode cX8_misses 44 = .ok (.invokevirtual 194, 3) := by decide +kernel
theorem dX8_misses_47 : decode cX8_misses 47 = .ok (.return_, 1) := by decide +kernel
theorem dX8_pass_0 : decode cX8_pass 0 = .ok (.aload_n 0, 1) := by decide +kernel
theorem dX8_pass_1 : decode cX8_pass 1 = .ok (.iload_n 1, 1) := by decide +kernel
theorem dX8_pass_2 : decode cX8_pass 2 = .ok (.iconst 1, 1) := by decide +kernel
theorem dX8_pass_3 : decode cX8_pass 3 = .ok (.bipush 10, 2) := by decide +kernel
theorem dX8_pass_5 : decode cX8_pass 5 = .ok (.invokestatic 91, 3) := by decide +kernel
theorem dX8_pass_8 : decode cX8_pass 8 = .ok (.ifCond .eq 7, 3) := by decide +kernel
theorem dX8_pass_11 : decode cX8_pass 11 = .ok (.iconst 0, 1) := by decide +kernel
theorem dX8_pass_12 : decode cX8_pass 12 = .ok (.goto 4, 3) := by decide +kernel
theorem dX8_pass_15 : decode cX8_pass 15 = .ok (.iconst 1, 1) := by decide +kernel
theorem dX8_pass_16 : decode cX8_pass 16 = .ok (.invokevirtual 113, 3) := by decide +kernel
theorem dX8_pass_19 : decode cX8_pass 19 = .ok (.ifCond .eq 5, 3) := by decide +kernel
theorem dX8_pass_22 : decode cX8_pass 22 = .ok (.iconst 0, 1) := by decide +kernel
theorem dX8_pass_23 : decode cX8_pass 23 = .ok (.ireturn, 1) := by decide +kernel
theorem dX8_pass_24 : decode cX8_pass 24 = .ok (.iconst 0, 1) := by decide +kernel
theorem dX8_pass_25 : decode cX8_pass 25 = .ok (.istore_n 2, 1) := by decide +kernel
theorem dX8_pass_26 : decode cX8_pass 26 = .ok (.iconst 0, 1) := by decide +kernel
theorem dX8_pass_27 : decode cX8_pass 27 = .ok (.istore_n 3, 1) := by decide +kernel
theorem dX8_pass_28 : decode cX8_pass 28 = .ok (.iload_n 3, 1) := by decide +kernel
theorem dX8_pass_29 : decode cX8_pass 29 = .ok (.iload_n 1, 1) := by decide +kernel
theorem dX8_pass_30 : decode cX8_pass 30 = .ok (.if_icmp .ge 16, 3) := by decide +kernel
theorem dX8_pass_33 : decode cX8_pass 33 = .ok (.iload_n 2, 1) := by decide +kernel
theorem dX8_pass_34 : decode cX8_pass 34 = .ok (.aload_n 0, 1) := by decide +kernel
theorem dX8_pass_35 : decode cX8_pass 35 = .ok (.invokevirtual 216, 3) := by decide +kernel
theorem dX8_pass_38 : decode cX8_pass 38 = .ok (.iadd, 1) := by decide +kernel
theorem dX8_pass_39 : decode cX8_pass 39 = .ok (.istore_n 2, 1) := by decide +kernel
theorem dX8_pass_40 : decode cX8_pass 40 = .ok (.iinc 3 1, 3) := by decide +kernel
theorem dX8_pass_43 : decode cX8_pass 43 = .ok (.goto (-15), 3) := by decide +kernel
theorem dX8_pass_46 : decode cX8_pass 46 = .ok (.iload_n 2, 1) := by decide +kernel
theorem dX8_pass_47 : decode cX8_pass 47 = .ok (.ireturn, 1) := by decide +kernel
theorem dX8_time_0 : decode cX8_time 0 = .ok (.aload_n 0, 1) := by decide +kernel
theorem dX8_time_1 : decode cX8_time 1 = .ok (.aload_n 0, 1) := by decide +kernel
theorem dX8_time_2 : decode cX8_time 2 = .ok (.getfield 85, 3) := by decide +kernel
theorem dX8_time_5 : decode cX8_time 5 = .ok (.invokevirtual 129, 3) := by decide +kernel
theorem dX8_time_8 : decode cX8_time 8 = .ok (.ireturn, 1) := by decide +kernel
theorem dX8_setWatch_0 : decode cX8_setWatch 0 = .ok (.aload_n 0, 1) := by decide +kernel
theorem dX8_setWatch_1 : decode cX8_setWatch 1 = .ok (.aload_n 0, 1) := by decide +kernel
theorem dX8_setWatch_2 : decode cX8_setWatch 2 = .ok (.iload_n 1, 1) := by decide +kernel
theorem dX8_setWatch_3 : decode cX8_setWatch 3 = .ok (.invokevirtual 120, 3) := by decide +kernel
theorem dX8_setWatch_6 : decode cX8_setWatch 6 = .ok (.ifCond .eq 7, 3) := by decide +kernel
theorem dX8_setWatch_9 : decode cX8_setWatch 9 = .ok (.iconst 1, 1) := by decide +kernel
theorem dX8_setWatch_10 : decode cX8_setWatch 10 = .ok (.goto 22, 3) := by decide +kernel
theorem dX8_setWatch_13 : decode cX8_setWatch 13 = .ok (.iload_n 2, 1) := by decide +kernel
theorem dX8_setWatch_14 : decode cX8_setWatch 14 = .ok (.ifCond .eq 17, 3) := by decide +kernel
theorem dX8_setWatch_17 : decode cX8_setWatch 17 = .ok (.iload_n 2, 1) := by decide +kernel
theorem dX8_setWatch_18 : decode cX8_setWatch 18 = .ok (.iconst 5, 1) := by decide +kernel
theorem dX8_setWatch_19 : decode cX8_setWatch 19 = .ok (.bipush 60, 2) := by decide +kernel
theorem dX8_setWatch_21 : decode cX8_setWatch 21 = .ok (.invokestatic 91, 3) := by decide +kernel
theorem dX8_setWatch_24 : decode cX8_setWatch 24 = .ok (.ifCond .ne 7, 3) := by decide +kernel
theorem dX8_setWatch_27 : decode cX8_setWatch 27 = .ok (.iconst 2, 1) := by decide +kernel
theorem dX8_setWatch_28 : decode cX8_setWatch 28 = .ok (.goto 4, 3) := by decide +kernel
theorem dX8_setWatch_31 : decode cX8_setWatch 31 = .ok (.iconst 0, 1) := by decide +kernel
theorem dX8_setWatch_32 : decode cX8_setWatch 32 = .ok (.invokevirtual 113, 3) := by decide +kernel
theorem dX8_setWatch_35 : decode cX8_setWatch 35 = .ok (.ifCond .eq 5, 3) := by decide +kernel
theorem dX8_setWatch_38 : decode cX8_setWatch 38 = .ok (.iconst 0, 1) := by decide +kernel
theorem dX8_setWatch_39 : decode cX8_setWatch 39 = .ok (.ireturn, 1) := by decide +kernel
theorem dX8_setWatch_40 : decode cX8_setWatch 40 = .ok (.aload_n 0, 1) := by decide +kernel
theorem dX8_setWatch_41 : decode cX8_setWatch 41 = .ok (.getfield 20, 3) := by decide +kernel
theorem dX8_setWatch_44 : decode cX8_setWatch 44 = .ok (.iload_n 1, 1) := by decide +kernel
theorem dX8_setWatch_45 : decode cX8_setWatch 45 = .ok (.iaload, 1) := by decide +kernel
theorem dX8_setWatch_46 : decode cX8_setWatch 46 = .ok (.istore_n 3, 1) := by decide +kernel
theorem dX8_setWatch_47 : decode cX8_setWatch 47 = .ok (.aload_n 0, 1) := by decide +kernel
theorem dX8_setWatch_48 : decode cX8_setWatch 48 = .ok (.getfield 20, 3) := by decide +kernel
theorem dX8_setWatch_51 : decode cX8_setWatch 51 = .ok (.iload_n 1, 1) := by decide +kernel
theorem dX8_setWatch_52 : decode cX8_setWatch 52 = .ok (.iload_n 2, 1) := by decide +kernel
theorem dX8_setWatch_53 : decode cX8_setWatch 53 = .ok (.iastore, 1) := by decide +kernel
theorem dX8_setWatch_54 : decode cX8_setWatch 54 = .ok (.aload_n 0, 1) := by decide +kernel
theorem dX8_setWatch_55 : decode cX8_setWatch 55 = .ok (.getfield 23, 3) := by decide +kernel
theorem dX8_setWatch_58 : decode cX8_setWatch 58 = .ok (.iload_n 1, 1) := by decide +kernel
theorem dX8_setWatch_59 : decode cX8_setWatch 59 = .ok (.aload_n 0, 1) := by decide +kernel
theorem dX8_setWatch_60 : decode cX8_setWatch 60 = .ok (.getfield 85, 3) := by decide +kernel
theorem dX8_setWatch_63 : decode cX8_setWatch 63 = .ok (.iastore, 1) := by decide +kernel
theorem dX8_setWatch_64 : decode cX8_setWatch 64 = .ok (.iload_n 3, 1) := by decide +kernel
theorem dX8_setWatch_65 : decode cX8_setWatch 65 = .ok (.ireturn, 1) := by decide +kernel
theorem dX8_report_0 : decode cX8_report 0 = .ok (.aload_n 0, 1) := by decide +kernel
theorem dX8_report_1 : decode cX8_report 1 = .ok (.aload_n 0, 1) := by decide +kernel
theorem dX8_report_2 : decode cX8_report 2 = .ok (.iload_n 1, 1) := by decide +kernel
theorem dX8_report_3 : decode cX8_report 3 = .ok (.invokevirtual 120, 3) := by decide +kernel
theorem dX8_report_6 : decode cX8_report 6 = .ok (.ifCond .eq 7, 3) := by decide +kernel
theorem dX8_report_9 : decode cX8_report 9 = .ok (.iconst 1, 1) := by decide +kernel
theorem dX8_report_10 : decode cX8_report 10 = .ok (.goto 26, 3) := by decide +kernel
theorem dX8_report_13 : decode cX8_report 13 = .ok (.aload_n 0, 1) := by decide +kernel
theorem dX8_report_14 : decode cX8_report 14 = .ok (.getfield 16, 3) := by decide +kernel
theorem dX8_report_17 : decode cX8_report 17 = .ok (.iload_n 1, 1) := by decide +kernel
theorem dX8_report_18 : decode cX8_report 18 = .ok (.baload, 1) := by decide +kernel
theorem dX8_report_19 : decode cX8_report 19 = .ok (.ifCond .ne 12, 3) := by decide +kernel
theorem dX8_report_22 : decode cX8_report 22 = .ok (.aload_n 0, 1) := by decide +kernel
theorem dX8_report_23 : decode cX8_report 23 = .ok (.getfield 20, 3) := by decide +kernel
theorem dX8_report_26 : decode cX8_report 26 = .ok (.iload_n 1, 1) := by decide +kernel
theorem dX8_report_27 : decode cX8_report 27 = .ok (.iaload, 1) := by decide +kernel
theorem dX8_report_28 : decode cX8_report 28 = .ok (.ifCond .ne 7, 3) := by decide +kernel
theorem dX8_report_31 : decode cX8_report 31 = .ok (.iconst 2, 1) := by decide +kernel
theorem dX8_report_32 : decode cX8_report 32 = .ok (.goto 4, 3) := by decide +kernel
theorem dX8_report_35 : decode cX8_report 35 = .ok (.iconst 0, 1) := by decide +kernel
theorem dX8_report_36 : decode cX8_report 36 = .ok (.invokevirtual 113, 3) := by decide +kernel
theorem dX8_report_39 : decode cX8_report 39 = .ok (.ifCond .eq 5, 3) := by decide +kernel
theorem dX8_report_42 : decode cX8_report 42 = .ok (.iconst 0, 1) := by decide +kernel
theorem dX8_report_43 : decode cX8_report 43 = .ok (.ireturn, 1) := by decide +kernel
theorem dX8_report_44 : decode cX8_report 44 = .ok (.aload_n 0, 1) := by decide +kernel
theorem dX8_report_45 : decode cX8_report 45 = .ok (.getfield 85, 3) := by decide +kernel
theorem dX8_report_48 : decode cX8_report 48 = .ok (.aload_n 0, 1) := by decide +kernel
theorem dX8_report_49 : decode cX8_report 49 = .ok (.getfield 23, 3) := by decide +kernel
theorem dX8_report_52 : decode cX8_report 52 = .ok (.iload_n 1, 1) := by decide +kernel
theorem dX8_report_53 : decode cX8_report 53 = .ok (.iaload, 1) := by decide +kernel
theorem dX8_report_54 : decode cX8_report 54 = .ok (.isub, 1) := by decide +kernel
theorem dX8_report_55 : decode cX8_report 55 = .ok (.istore_n 2, 1) := by decide +kernel
theorem dX8_report_56 : decode cX8_report 56 = .ok (.aload_n 0, 1) := by decide +kernel
theorem dX8_report_57 : decode cX8_report 57 = .ok (.getfield 23, 3) := by decide +kernel
theorem dX8_report_60 : decode cX8_report 60 = .ok (.iload_n 1, 1) := by decide +kernel
theorem dX8_report_61 : decode cX8_report 61 = .ok (.aload_n 0, 1) := by decide +kernel
theorem dX8_report_62 : decode cX8_report 62 = .ok (.getfield 85, 3) := by decide +kernel
theorem dX8_report_65 : decode cX8_report 65 = .ok (.iastore, 1) := by decide +kernel
theorem dX8_report_66 : decode cX8_report 66 = .ok (.iload_n 2, 1) := by decide +kernel
theorem dX8_report_67 : decode cX8_report 67 = .ok (.ireturn, 1) := by decide +kernel
theorem dX8_sinceReport_0 : decode cX8_sinceReport 0 = .ok (.aload_n 0, 1) := by decide +kernel
theorem dX8_sinceReport_1 : decode cX8_sinceReport 1 = .ok (.aload_n 0, 1) := by decide +kernel
theorem dX8_sinceReport_2 : decode cX8_sinceReport 2 = .ok (.iload_n 1, 1) := by decide +kernel
theorem dX8_sinceReport_3 : decode cX8_sinceReport 3 = .ok (.invokevirtual 120, 3) := by decide +kernel
theorem dX8_sinceReport_6 : decode cX8_sinceReport 6 = .ok (.ifCond .eq 7, 3) := by decide +kernel
theorem dX8_sinceReport_9 : decode cX8_sinceReport 9 = .ok (.iconst 1, 1) := by decide +kernel
theorem dX8_sinceReport_10 : decode cX8_sinceReport 10 = .ok (.goto 17, 3) := by decide +kernel
theorem dX8_sinceReport_13 : decode cX8_sinceReport 13 = .ok (.aload_n 0, 1) := by decide +kernel
theorem dX8_sinceReport_14 : decode cX8_sinceReport 14 = .ok (.getfield 20, 3) := by decide +kernel
theorem dX8_sinceReport_17 : decode cX8_sinceReport 17 = .ok (.iload_n 1, 1) := by decide +kernel
theorem dX8_sinceReport_18 : decode cX8_sinceReport 18 = .ok (.iaload, 1) := by decide +kernel
theorem dX8_sinceReport_19 : decode cX8_sinceReport 19 = .ok (.ifCond .ne 7, 3) := by decide +kernel
theorem dX8_sinceReport_22 : decode cX8_sinceReport 22 = .ok (.iconst 2, 1) := by decide +kernel
theorem dX8_sinceReport_23 : decode cX8_sinceReport 23 = .ok (.goto 4, 3) := by decide +kernel
theorem dX8_sinceReport_26 : decode cX8_sinceReport 26 = .ok (.iconst 0, 1) := by decide +kernel
theorem dX8_sinceReport_27 : decode cX8_sinceReport 27 = .ok (.invokevirtual 113, 3) := by decide +kernel
theorem dX8_sinceReport_30 : decode cX8_sinceReport 30 = .ok (.ifCond .eq 7, 3) := by decide +kernel
theorem dX8_sinceReport_33 : decode cX8_sinceReport 33 = .ok (.iconst 0, 1) := by decide +kernel
theorem dX8_sinceReport_34 : decode cX8_sinceReport 34 = .ok (.goto 14, 3) := by decide +kernel
theorem dX8_sinceReport_37 : decode cX8_sinceReport 37 = .ok (.aload_n 0, 1) := by decide +kernel
theorem dX8_sinceReport_38 : decode cX8_sinceReport 38 = .ok (.getfield 85, 3) := by decide +kernel
theorem dX8_sinceReport_41 : decode cX8_sinceReport 41 = .ok (.aload_n 0, 1) := by decide +kernel
theorem dX8_sinceReport_42 : decode cX8_sinceReport 42 = .ok (.getfield 23, 3) := by decide +kernel
theorem dX8_sinceReport_45 : decode cX8_sinceReport 45 = .ok (.iload_n 1, 1) := by decide +kernel
theorem dX8_sinceReport_46 : decode cX8_sinceReport 46 = .ok (.iaload, 1) := by decide +kernel
theorem dX8_sinceReport_47 : decode cX8_sinceReport 47 = .ok (.isub, 1) := by decide +kernel
theorem dX8_sinceReport_48 : decode cX8_sinceReport 48 = .ok (.ireturn, 1) := by decide +kernel
theorem dX8_missed_0 : decode cX8_missed 0 = .ok (.aload_n 0, 1) := by decide +kernel
theorem dX8_missed_1 : decode cX8_missed 1 = .ok (.aload_n 0, 1) := by decide +kernel
theorem dX8_missed_2 : decode cX8_missed 2 = .ok (.iload_n 1, 1) := by decide +kernel
theorem dX8_missed_3 : decode cX8_missed 3 = .ok (.invokevirtual 120, 3) := by decide +kernel
theorem dX8_missed_6 : decode cX8_missed 6 = .ok (.ifCond .eq 7, 3) := by decide +kernel
theorem dX8_missed_9 : decode cX8_missed 9 = .ok (.iconst 1, 1) := by decide +kernel
theorem dX8_missed_10 : decode cX8_missed 10 = .ok (.goto 4, 3) := by decide +kernel
theorem dX8_missed_13 : decode cX8_missed 13 = .ok (.iconst 0, 1) := by decide +kernel
theorem dX8_missed_14 : decode cX8_missed 14 = .ok (.invokevirtual 113, 3) := by decide +kernel
theorem dX8_missed_17 : decode cX8_missed 17 = .ok (.ifCond .eq 7, 3) := by decide +kernel
theorem dX8_missed_20 : decode cX8_missed 20 = .ok (.iconst 0, 1) := by decide +kernel
theorem dX8_missed_21 : decode cX8_missed 21 = .ok (.goto 9, 3) := by decide +kernel
theorem dX8_missed_24 : decode cX8_missed 24 = .ok (.aload_n 0, 1) := by decide +kernel
theorem dX8_missed_25 : decode cX8_missed 25 = .ok (.getfield 26, 3) := by decide +kernel
theorem dX8_missed_28 : decode cX8_missed 28 = .ok (.iload_n 1, 1) := by decide +kernel
theorem dX8_missed_29 : decode cX8_missed 29 = .ok (.iaload, 1) := by decide +kernel
theorem dX8_missed_30 : decode cX8_missed 30 = .ok (.ireturn, 1) := by decide +kernel
theorem dX8_logged_0 : decode cX8_logged 0 = .ok (.aload_n 0, 1) := by decide +kernel
theorem dX8_logged_1 : decode cX8_logged 1 = .ok (.aload_n 0, 1) := by decide +kernel
theorem dX8_logged_2 : decode cX8_logged 2 = .ok (.getfield 82, 3) := by decide +kernel
theorem dX8_logged_5 : decode cX8_logged 5 = .ok (.invokevirtual 129, 3) := by decide +kernel
theorem dX8_logged_8 : decode cX8_logged 8 = .ok (.ireturn, 1) := by decide +kernel
theorem dX8_isNoEntry_0 : decode cX8_isNoEntry 0 = .ok (.aload_n 0, 1) := by decide +kernel
theorem dX8_isNoEntry_1 : decode cX8_isNoEntry 1 = .ok (.iload_n 1, 1) := by decide +kernel
theorem dX8_isNoEntry_2 : decode cX8_isNoEntry 2 = .ok (.iconst 0, 1) := by decide +kernel
theorem dX8_isNoEntry_3 : decode cX8_isNoEntry 3 = .ok (.aload_n 0, 1) := by decide +kernel
theorem dX8_isNoEntry_4 : decode cX8_isNoEntry 4 = .ok (.getfield 82, 3) := by decide +kernel
theorem dX8_isNoEntry_7 : decode cX8_isNoEntry 7 = .ok (.bipush 60, 2) := by decide +kernel
theorem dX8_isNoEntry_9 : decode cX8_isNoEntry 9 = .ok (.if_icmp .ge 10, 3) := by decide +kernel
theorem dX8_isNoEntry_12 : decode cX8_isNoEntry 12 = .ok (.aload_n 0, 1) := by decide +kernel
theorem dX8_isNoEntry_13 : decode cX8_isNoEntry 13 = .ok (.getfield 82, 3) := by decide +kernel
theorem dX8_isNoEntry_16 : decode cX8_isNoEntry 16 = .ok (.goto 5, 3) := by decide +kernel
theorem dX8_isNoEntry_19 : decode cX8_isNoEntry 19 = .ok (.bipush 60, 2) := by decide +kernel
theorem dX8_isNoEntry_21 : decode cX8_isNoEntry 21 = .ok (.iconst 1, 1) := by decide +kernel
theorem dX8_isNoEntry_22 : decode cX8_isNoEntry 22 = .ok (.isub, 1) := by decide +kernel
theorem dX8_isNoEntry_23 : decode cX8_isNoEntry 23 = .ok (.invokestatic 91, 3) := by decide +kernel
theorem dX8_isNoEntry_26 : decode cX8_isNoEntry 26 = .ok (.ifCond .eq 7, 3) := by decide +kernel
theorem dX8_isNoEntry_29 : decode cX8_isNoEntry 29 = .ok (.iconst 0, 1) := by decide +kernel
theorem dX8_isNoEntry_30 : decode cX8_isNoEntry 30 = .ok (.goto 4, 3) := by decide +kernel
theorem dX8_isNoEntry_33 : decode cX8_isNoEntry 33 = .ok (.iconst 1, 1) := by decide +kernel
theorem dX8_isNoEntry_34 : decode cX8_isNoEntry 34 = .ok (.invokevirtual 113, 3) := by decide +kernel
theorem dX8_isNoEntry_37 : decode cX8_isNoEntry 37 = .ok (.ireturn, 1) := by decide +kernel
theorem dX8_entry_0 : decode cX8_entry 0 = .ok (.aload_n 0, 1) := by decide +kernel
theorem dX8_entry_1 : decode cX8_entry 1 = .ok (.getfield 82, 3) := by decide +kernel
theorem dX8_entry_4 : decode cX8_entry 4 = .ok (.iconst 1, 1) := by decide +kernel
theorem dX8_entry_5 : decode cX8_entry 5 = .ok (.isub, 1) := by decide +kernel
theorem dX8_entry_6 : decode cX8_entry 6 = .ok (.iload_n 1, 1) := by decide +kernel
theorem dX8_entry_7 : decode cX8_entry 7 = .ok (.isub, 1) := by decide +kernel
theorem dX8_entry_8 : decode cX8_entry 8 = .ok (.bipush 60, 2) := by decide +kernel
theorem dX8_entry_10 : decode cX8_entry 10 = .ok (.irem, 1) := by decide +kernel
theorem dX8_entry_11 : decode cX8_entry 11 = .ok (.ireturn, 1) := by decide +kernel
theorem dX8_logTime_0 : decode cX8_logTime 0 = .ok (.aload_n 0, 1) := by decide +kernel
theorem dX8_logTime_1 : decode cX8_logTime 1 = .ok (.iload_n 1, 1) := by decide +kernel
theorem dX8_logTime_2 : decode cX8_logTime 2 = .ok (.invokevirtual 219, 3) := by decide +kernel
theorem dX8_logTime_5 : decode cX8_logTime 5 = .ok (.ifCond .eq 7, 3) := by decide +kernel
theorem dX8_logTime_8 : decode cX8_logTime 8 = .ok (.iconst 0, 1) := by decide +kernel
theorem dX8_logTime_9 : decode cX8_logTime 9 = .ok (.goto 13, 3) := by decide +kernel
theorem dX8_logTime_12 : decode cX8_logTime 12 = .ok (.aload_n 0, 1) := by decide +kernel
theorem dX8_logTime_13 : decode cX8_logTime 13 = .ok (.getfield 69, 3) := by decide +kernel
theorem dX8_logTime_16 : decode cX8_logTime 16 = .ok (.aload_n 0, 1) := by decide +kernel
theorem dX8_logTime_17 : decode cX8_logTime 17 = .ok (.iload_n 1, 1) := by decide +kernel
theorem dX8_logTime_18 : decode cX8_logTime 18 = .ok (.invokevirtual 222, 3) := by decide +kernel
theorem dX8_logTime_21 : decode cX8_logTime 21 = .ok (.iaload, 1) := by decide +kernel
theorem dX8_logTime_22 : decode cX8_logTime 22 = .ok (.ireturn, 1) := by decide +kernel
theorem dX8_logKind_0 : decode cX8_logKind 0 = .ok (.aload_n 0, 1) := by decide +kernel
theorem dX8_logKind_1 : decode cX8_logKind 1 = .ok (.iload_n 1, 1) := by decide +kernel
theorem dX8_logKind_2 : decode cX8_logKind 2 = .ok (.invokevirtual 219, 3) := by decide +kernel
theorem dX8_logKind_5 : decode cX8_logKind 5 = .ok (.ifCond .eq 8, 3) := by decide +kernel
theorem dX8_logKind_8 : decode cX8_logKind 8 = .ok (.bipush 97, 2) := by decide +kernel
theorem dX8_logKind_10 : decode cX8_logKind 10 = .ok (.goto 13, 3) := by decide +kernel
theorem dX8_logKind_13 : decode cX8_logKind 13 = .ok (.aload_n 0, 1) := by decide +kernel
theorem dX8_logKind_14 : decode cX8_logKind 14 = .ok (.getfield 72, 3) := by decide +kernel
theorem dX8_logKind_17 : decode cX8_logKind 17 = .ok (.aload_n 0, 1) := by decide +kernel
theorem dX8_logKind_18 : decode cX8_logKind 18 = .ok (.iload_n 1, 1) := by decide +kernel
theorem dX8_logKind_19 : decode cX8_logKind 19 = .ok (.invokevirtual 222, 3) := by decide +kernel
theorem dX8_logKind_22 : decode cX8_logKind 22 = .ok (.caload, 1) := by decide +kernel
theorem dX8_logKind_23 : decode cX8_logKind 23 = .ok (.ireturn, 1) := by decide +kernel
theorem dX8_logNumber_0 : decode cX8_logNumber 0 = .ok (.aload_n 0, 1) := by decide +kernel
theorem dX8_logNumber_1 : decode cX8_logNumber 1 = .ok (.iload_n 1, 1) := by decide +kernel
theorem dX8_logNumber_2 : decode cX8_logNumber 2 = .ok (.invokevirtual 219, 3) := by decide +kernel
theorem dX8_logNumber_5 : decode cX8_logNumber 5 = .ok (.ifCond .eq 7, 3) := by decide +kernel
theorem dX8_logNumber_8 : decode cX8_logNumber 8 = .ok (.iconst 0, 1) := by decide +kernel
theorem dX8_logNumber_9 : decode cX8_logNumber 9 = .ok (.goto 13, 3) := by decide +kernel
theorem dX8_logNumber_12 : decode cX8_logNumber 12 = .ok (.aload_n 0, 1) := by decide +kernel
theorem dX8_logNumber_13 : decode cX8_logNumber 13 = .ok (.getfield 75, 3) := by decide +kernel
theorem dX8_logNumber_16 : decode cX8_logNumber 16 = .ok (.aload_n 0, 1) := by decide +kernel
theorem dX8_logNumber_17 : decode cX8_logNumber 17 = .ok (.iload_n 1, 1) := by decide +kernel
theorem dX8_logNumber_18 : decode cX8_logNumber 18 = .ok (.invokevirtual 222, 3) := by decide +kernel
theorem dX8_logNumber_21 : decode cX8_logNumber 21 = .ok (.iaload, 1) := by decide +kernel
theorem dX8_logNumber_22 : decode cX8_logNumber 22 = .ok (.ireturn, 1) := by decide +kernel
theorem dX8_waited_0 : decode cX8_waited 0 = .ok (.aload_n 0, 1) := by decide +kernel
theorem dX8_waited_1 : decode cX8_waited 1 = .ok (.iconst 0, 1) := by decide +kernel
theorem dX8_waited_2 : decode cX8_waited 2 = .ok (.putfield 78, 3) := by decide +kernel
theorem dX8_waited_5 : decode cX8_waited 5 = .ok (.aload_n 0, 1) := by decide +kernel
theorem dX8_waited_6 : decode cX8_waited 6 = .ok (.getfield 209, 3) := by decide +kernel
theorem dX8_waited_9 : decode cX8_waited 9 = .ok (.lreturn, 1) := by decide +kernel
theorem dX8_meanWait_0 : decode cX8_meanWait 0 = .ok (.aload_n 0, 1) := by decide +kernel
theorem dX8_meanWait_1 : decode cX8_meanWait 1 = .ok (.aload_n 0, 1) := by decide +kernel
theorem dX8_meanWait_2 : decode cX8_meanWait 2 = .ok (.getfield 172, 3) := by decide +kernel
theorem dX8_meanWait_5 : decode cX8_meanWait 5 = .ok (.ifCond .ne 7, 3) := by decide +kernel
theorem dX8_meanWait_8 : decode cX8_meanWait 8 = .ok (.iconst 1, 1) := by decide +kernel
theorem dX8_meanWait_9 : decode cX8_meanWait 9 = .ok (.goto 4, 3) := by decide +kernel
theorem dX8_meanWait_12 : decode cX8_meanWait 12 = .ok (.iconst 0, 1) := by decide +kernel
theorem dX8_meanWait_13 : decode cX8_meanWait 13 = .ok (.invokevirtual 113, 3) := by decide +kernel
theorem dX8_meanWait_16 : decode cX8_meanWait 16 = .ok (.ifCond .eq 7, 3) := by decide +kernel
theorem dX8_meanWait_19 : decode cX8_meanWait 19 = .ok (.dconst 0, 1) := by decide +kernel
theorem dX8_meanWait_20 : decode cX8_meanWait 20 = .ok (.goto 14, 3) := by decide +kernel
theorem dX8_meanWait_23 : decode cX8_meanWait 23 = .ok (.aload_n 0, 1) := by decide +kernel
theorem dX8_meanWait_24 : decode cX8_meanWait 24 = .ok (.getfield 175, 3) := by decide +kernel
theorem dX8_meanWait_27 : decode cX8_meanWait 27 = .ok (.i2d, 1) := by decide +kernel
theorem dX8_meanWait_28 : decode cX8_meanWait 28 = .ok (.aload_n 0, 1) := by decide +kernel
theorem dX8_meanWait_29 : decode cX8_meanWait 29 = .ok (.getfield 172, 3) := by decide +kernel
theorem dX8_meanWait_32 : decode cX8_meanWait 32 = .ok (.i2d, 1) := by decide +kernel
theorem dX8_meanWait_33 : decode cX8_meanWait 33 = .ok (.ddiv, 1) := by decide +kernel
theorem dX8_meanWait_34 : decode cX8_meanWait 34 = .ok (.dreturn, 1) := by decide +kernel
theorem dX8_channelShare_0 : decode cX8_channelShare 0 = .ok (.aload_n 0, 1) := by decide +kernel
theorem dX8_channelShare_1 : decode cX8_channelShare 1 = .ok (.aload_n 0, 1) := by decide +kernel
theorem dX8_channelShare_2 : decode cX8_channelShare 2 = .ok (.iload_n 1, 1) := by decide +kernel
theorem dX8_channelShare_3 : decode cX8_channelShare 3 = .ok (.invokevirtual 203, 3) := by decide +kernel
theorem dX8_channelShare_6 : decode cX8_channelShare 6 = .ok (.ifCond .eq 7, 3) := by decide +kernel
theorem dX8_channelShare_9 : decode cX8_channelShare 9 = .ok (.iconst 1, 1) := by decide +kernel
theorem dX8_channelShare_10 : decode cX8_channelShare 10 = .ok (.goto 15, 3) := by decide +kernel
theorem dX8_channelShare_13 : decode cX8_channelShare 13 = .ok (.aload_n 0, 1) := by decide +kernel
theorem dX8_channelShare_14 : decode cX8_channelShare 14 = .ok (.getfield 85, 3) := by decide +kernel
theorem dX8_channelShare_17 : decode cX8_channelShare 17 = .ok (.ifCond .ne 7, 3) := by decide +kernel
theorem dX8_channelShare_20 : decode cX8_channelShare 20 = .ok (.iconst 2, 1) := by decide +kernel
theorem dX8_channelShare_21 : decode cX8_channelShare 21 = .ok (.goto 4, 3) := by decide +kernel
theorem dX8_channelShare_24 : decode cX8_channelShare 24 = .ok (.iconst 0, 1) := by decide +kernel
theorem dX8_channelShare_25 : decode cX8_channelShare 25 = .ok (.invokevirtual 113, 3) := by decide +kernel
theorem dX8_channelShare_28 : decode cX8_channelShare 28 = .ok (.ifCond .eq 7, 3) := by decide +kernel
theorem dX8_channelShare_31 : decode cX8_channelShare 31 = .ok (.fconst 0, 1) := by decide +kernel
theorem dX8_channelShare_32 : decode cX8_channelShare 32 = .ok (.goto 16, 3) := by decide +kernel
theorem dX8_channelShare_35 : decode cX8_channelShare 35 = .ok (.aload_n 0, 1) := by decide +kernel
theorem dX8_channelShare_36 : decode cX8_channelShare 36 = .ok (.getfield 66, 3) := by decide +kernel
theorem dX8_channelShare_39 : decode cX8_channelShare 39 = .ok (.iload_n 1, 1) := by decide +kernel
theorem dX8_channelShare_40 : decode cX8_channelShare 40 = .ok (.iaload, 1) := by decide +kernel
theorem dX8_channelShare_41 : decode cX8_channelShare 41 = .ok (.i2f, 1) := by decide +kernel
theorem dX8_channelShare_42 : decode cX8_channelShare 42 = .ok (.aload_n 0, 1) := by decide +kernel
theorem dX8_channelShare_43 : decode cX8_channelShare 43 = .ok (.getfield 85, 3) := by decide +kernel
theorem dX8_channelShare_46 : decode cX8_channelShare 46 = .ok (.i2f, 1) := by decide +kernel
theorem dX8_channelShare_47 : decode cX8_channelShare 47 = .ok (.fdiv, 1) := by decide +kernel
theorem dX8_channelShare_48 : decode cX8_channelShare 48 = .ok (.freturn, 1) := by decide +kernel
theorem dX8_isInOrder_0 : decode cX8_isInOrder 0 = .ok (.aload_n 0, 1) := by decide +kernel
theorem dX8_isInOrder_1 : decode cX8_isInOrder 1 = .ok (.iconst 0, 1) := by decide +kernel
theorem dX8_isInOrder_2 : decode cX8_isInOrder 2 = .ok (.putfield 78, 3) := by decide +kernel
theorem dX8_isInOrder_5 : decode cX8_isInOrder 5 = .ok (.iconst 0, 1) := by decide +kernel
theorem dX8_isInOrder_6 : decode cX8_isInOrder 6 = .ok (.istore_n 1, 1) := by decide +kernel
theorem dX8_isInOrder_7 : decode cX8_isInOrder 7 = .ok (.iload_n 1, 1) := by decide +kernel
theorem dX8_isInOrder_8 : decode cX8_isInOrder 8 = .ok (.aload_n 0, 1) := by decide +kernel
theorem dX8_isInOrder_9 : decode cX8_isInOrder 9 = .ok (.getfield 135, 3) := by decide +kernel
theorem dX8_isInOrder_12 : decode cX8_isInOrder 12 = .ok (.if_icmp .ge 58, 3) := by decide +kernel
theorem dX8_isInOrder_15 : decode cX8_isInOrder 15 = .ok (.aload_n 0, 1) := by decide +kernel
theorem dX8_isInOrder_16 : decode cX8_isInOrder 16 = .ok (.getfield 48, 3) := by decide +kernel
theorem dX8_isInOrder_19 : decode cX8_isInOrder 19 = .ok (.iload_n 1, 1) := by decide +kernel
theorem dX8_isInOrder_20 : decode cX8_isInOrder 20 = .ok (.caload, 1) := by decide +kernel
theorem dX8_isInOrder_21 : decode cX8_isInOrder 21 = .ok (.bipush 119, 2) := by decide +kernel
theorem dX8_isInOrder_23 : decode cX8_isInOrder 23 = .ok (.if_icmp .ne 14, 3) := by decide +kernel
theorem dX8_isInOrder_26 : decode cX8_isInOrder 26 = .ok (.aload_n 0, 1) := by decide +kernel
theorem dX8_isInOrder_27 : decode cX8_isInOrder 27 = .ok (.iload_n 1, 1) := by decide +kernel
theorem dX8_isInOrder_28 : decode cX8_isInOrder 28 = .ok (.invokevirtual 181, 3) := by decide +kernel
theorem dX8_isInOrder_31 : decode cX8_isInOrder 31 = .ok (.ifCond .eq 33, 3) := by decide +kernel
theorem dX8_isInOrder_34 : decode cX8_isInOrder 34 = .ok (.goto 28, 3) := by decide +kernel
theorem dX8_isInOrder_37 : decode cX8_isInOrder 37 = .ok (.aload_n 0, 1) := by decide +kernel
theorem dX8_isInOrder_38 : decode cX8_isInOrder 38 = .ok (.getfield 48, 3) := by decide +kernel
theorem dX8_isInOrder_41 : decode cX8_isInOrder 41 = .ok (.iload_n 1, 1) := by decide +kernel
theorem dX8_isInOrder_42 : decode cX8_isInOrder 42 = .ok (.caload, 1) := by decide +kernel
theorem dX8_isInOrder_43 : decode cX8_isInOrder 43 = .ok (.bipush 115, 2) := by decide +kernel
theorem dX8_isInOrder_45 : decode cX8_isInOrder 45 = .ok (.if_icmp .ne 19, 3) := by decide +kernel
theorem dX8_isInOrder_48 : decode cX8_isInOrder 48 = .ok (.aload_n 0, 1) := by decide +kernel
theorem dX8_isInOrder_49 : decode cX8_isInOrder 49 = .ok (.getfield 51, 3) := by decide +kernel
theorem dX8_isInOrder_52 : decode cX8_isInOrder 52 = .ok (.iload_n 1, 1) := by decide +kernel
theorem dX8_isInOrder_53 : decode cX8_isInOrder 53 = .ok (.iaload, 1) := by decide +kernel
theorem dX8_isInOrder_54 : decode cX8_isInOrder 54 = .ok (.aload_n 0, 1) := by decide +kernel
theorem dX8_isInOrder_55 : decode cX8_isInOrder 55 = .ok (.iload_n 1, 1) := by decide +kernel
theorem dX8_isInOrder_56 : decode cX8_isInOrder 56 = .ok (.invokevirtual 159, 3) := by decide +kernel
theorem dX8_isInOrder_59 : decode cX8_isInOrder 59 = .ok (.if_icmp .ge 5, 3) := by decide +kernel
theorem dX8_isInOrder_62 : decode cX8_isInOrder 62 = .ok (.iconst 0, 1) := by decide +kernel
theorem dX8_isInOrder_63 : decode cX8_isInOrder 63 = .ok (.ireturn, 1) := by decide +kernel
theorem dX8_isInOrder_64 : decode cX8_isInOrder 64 = .ok (.iinc 1 1, 3) := by decide +kernel
theorem dX8_isInOrder_67 : decode cX8_isInOrder 67 = .ok (.goto (-60), 3) := by decide +kernel
theorem dX8_isInOrder_70 : decode cX8_isInOrder 70 = .ok (.iconst 1, 1) := by decide +kernel
theorem dX8_isInOrder_71 : decode cX8_isInOrder 71 = .ok (.ireturn, 1) := by decide +kernel
