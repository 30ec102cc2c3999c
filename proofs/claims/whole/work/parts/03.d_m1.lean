theorem dX3_init_0 : decode cX3_init 0 = .ok (.aload_n 0, 1) := by decide +kernel
theorem dX3_init_1 : decode cX3_init 1 = .ok (.invokespecial 1, 3) := by decide +kernel
theorem dX3_init_4 : decode cX3_init 4 = .ok (.aload_n 0, 1) := by decide +kernel
theorem dX3_init_5 : decode cX3_init 5 = .ok (.iconst 4, 1) := by decide +kernel
theorem dX3_init_6 : decode cX3_init 6 = .ok (.putfield 7, 3) := by decide +kernel
theorem dX3_init_9 : decode cX3_init 9 = .ok (.aload_n 0, 1) := by decide +kernel
theorem dX3_init_10 : decode cX3_init 10 = .ok (.bipush 64, 2) := by decide +kernel
theorem dX3_init_12 : decode cX3_init 12 = .ok (.newarray .int, 2) := by decide +kernel
theorem dX3_init_14 : decode cX3_init 14 = .ok (.putfield 13, 3) := by decide +kernel
theorem dX3_init_17 : decode cX3_init 17 = .ok (.aload_n 0, 1) := by decide +kernel
theorem dX3_init_18 : decode cX3_init 18 = .ok (.bipush 64, 2) := by decide +kernel
theorem dX3_init_20 : decode cX3_init 20 = .ok (.newarray .int, 2) := by decide +kernel
theorem dX3_init_22 : decode cX3_init 22 = .ok (.putfield 17, 3) := by decide +kernel
theorem dX3_init_25 : decode cX3_init 25 = .ok (.aload_n 0, 1) := by decide +kernel
theorem dX3_init_26 : decode cX3_init 26 = .ok (.bipush 16, 2) := by decide +kernel
theorem dX3_init_28 : decode cX3_init 28 = .ok (.newarray .int, 2) := by decide +kernel
theorem dX3_init_30 : decode cX3_init 30 = .ok (.putfield 20, 3) := by decide +kernel
theorem dX3_init_33 : decode cX3_init 33 = .ok (.aload_n 0, 1) := by decide +kernel
theorem dX3_init_34 : decode cX3_init 34 = .ok (.bipush 16, 2) := by decide +kernel
theorem dX3_init_36 : decode cX3_init 36 = .ok (.newarray .int, 2) := by decide +kernel
theorem dX3_init_38 : decode cX3_init 38 = .ok (.putfield 23, 3) := by decide +kernel
theorem dX3_init_41 : decode cX3_init 41 = .ok (.aload_n 0, 1) := by decide +kernel
theorem dX3_init_42 : decode cX3_init 42 = .ok (.bipush 16, 2) := by decide +kernel
theorem dX3_init_44 : decode cX3_init 44 = .ok (.newarray .int, 2) := by decide +kernel
theorem dX3_init_46 : decode cX3_init 46 = .ok (.putfield 26, 3) := by decide +kernel
theorem dX3_init_49 : decode cX3_init 49 = .ok (.aload_n 0, 1) := by decide +kernel
theorem dX3_init_50 : decode cX3_init 50 = .ok (.bipush 16, 2) := by decide +kernel
theorem dX3_init_52 : decode cX3_init 52 = .ok (.newarray .int, 2) := by decide +kernel
theorem dX3_init_54 : decode cX3_init 54 = .ok (.putfield 29, 3) := by decide +kernel
theorem dX3_init_57 : decode cX3_init 57 = .ok (.aload_n 0, 1) := by decide +kernel
theorem dX3_init_58 : decode cX3_init 58 = .ok (.bipush 16, 2) := by decide +kernel
theorem dX3_init_60 : decode cX3_init 60 = .ok (.newarray .int, 2) := by decide +kernel
theorem dX3_init_62 : decode cX3_init 62 = .ok (.putfield 32, 3) := by decide +kernel
theorem dX3_init_65 : decode cX3_init 65 = .ok (.aload_n 0, 1) := by decide +kernel
theorem dX3_init_66 : decode cX3_init 66 = .ok (.sipush 3840, 3) := by decide +kernel
theorem dX3_init_69 : decode cX3_init 69 = .ok (.newarray .int, 2) := by decide +kernel
theorem dX3_init_71 : decode cX3_init 71 = .ok (.putfield 35, 3) := by decide +kernel
theorem dX3_init_74 : decode cX3_init 74 = .ok (.aload_n 0, 1) := by decide +kernel
theorem dX3_init_75 : decode cX3_init 75 = .ok (.sipush 960, 3) := by decide +kernel
theorem dX3_init_78 : decode cX3_init 78 = .ok (.newarray .int, 2) := by decide +kernel
theorem dX3_init_80 : decode cX3_init 80 = .ok (.putfield 38, 3) := by decide +kernel
theorem dX3_init_83 : decode cX3_init 83 = .ok (.aload_n 0, 1) := by decide +kernel
theorem dX3_init_84 : decode cX3_init 84 = .ok (.sipush 960, 3) := by decide +kernel
theorem dX3_init_87 : decode cX3_init 87 = .ok (.newarray .int, 2) := by decide +kernel
theorem dX3_init_89 : decode cX3_init 89 = .ok (.putfield 41, 3) := by decide +kernel
theorem dX3_init_92 : decode cX3_init 92 = .ok (.aload_n 0, 1) := by decide +kernel
theorem dX3_init_93 : decode cX3_init 93 = .ok (.sipush 960, 3) := by decide +kernel
theorem dX3_init_96 : decode cX3_init 96 = .ok (.newarray .int, 2) := by decide +kernel
theorem dX3_init_98 : decode cX3_init 98 = .ok (.putfield 44, 3) := by decide +kernel
theorem dX3_init_101 : decode cX3_init 101 = .ok (.aload_n 0, 1) := by decide +kernel
theorem dX3_init_102 : decode cX3_init 102 = .ok (.sipush 960, 3) := by decide +kernel
theorem dX3_init_105 : decode cX3_init 105 = .ok (.newarray .int, 2) := by decide +kernel
theorem dX3_init_107 : decode cX3_init 107 = .ok (.putfield 47, 3) := by decide +kernel
theorem dX3_init_110 : decode cX3_init 110 = .ok (.aload_n 0, 1) := by decide +kernel
theorem dX3_init_111 : decode cX3_init 111 = .ok (.sipush 960, 3) := by decide +kernel
theorem dX3_init_114 : decode cX3_init 114 = .ok (.newarray .int, 2) := by decide +kernel
theorem dX3_init_116 : decode cX3_init 116 = .ok (.putfield 50, 3) := by decide +kernel
theorem dX3_init_119 : decode cX3_init 119 = .ok (.aload_n 0, 1) := by decide +kernel
theorem dX3_init_120 : decode cX3_init 120 = .ok (.sipush 960, 3) := by decide +kernel
theorem dX3_init_123 : decode cX3_init 123 = .ok (.newarray .int, 2) := by decide +kernel
theorem dX3_init_125 : decode cX3_init 125 = .ok (.putfield 53, 3) := by decide +kernel
theorem dX3_init_128 : decode cX3_init 128 = .ok (.aload_n 0, 1) := by decide +kernel
theorem dX3_init_129 : decode cX3_init 129 = .ok (.sipush 960, 3) := by decide +kernel
theorem dX3_init_132 : decode cX3_init 132 = .ok (.newarray .int, 2) := by decide +kernel
theorem dX3_init_134 : decode cX3_init 134 = .ok (.putfield 56, 3) := by decide +kernel
theorem dX3_init_137 : decode cX3_init 137 = .ok (.aload_n 0, 1) := by decide +kernel
theorem dX3_init_138 : decode cX3_init 138 = .ok (.sipush 960, 3) := by decide +kernel
theorem dX3_init_141 : decode cX3_init 141 = .ok (.newarray .int, 2) := by decide +kernel
theorem dX3_init_143 : decode cX3_init 143 = .ok (.putfield 59, 3) := by decide +kernel
theorem dX3_init_146 : decode cX3_init 146 = .ok (.aload_n 0, 1) := by decide +kernel
theorem dX3_init_147 : decode cX3_init 147 = .ok (.sipush 480, 3) := by decide +kernel
theorem dX3_init_150 : decode cX3_init 150 = .ok (.newarray .int, 2) := by decide +kernel
theorem dX3_init_152 : decode cX3_init 152 = .ok (.putfield 62, 3) := by decide +kernel
theorem dX3_init_155 : decode cX3_init 155 = .ok (.aload_n 0, 1) := by decide +kernel
theorem dX3_init_156 : decode cX3_init 156 = .ok (.iconst 1, 1) := by decide +kernel
theorem dX3_init_157 : decode cX3_init 157 = .ok (.putfield 65, 3) := by decide +kernel
theorem dX3_init_160 : decode cX3_init 160 = .ok (.aload_n 0, 1) := by decide +kernel
theorem dX3_init_161 : decode cX3_init 161 = .ok (.iconst 3, 1) := by decide +kernel
theorem dX3_init_162 : decode cX3_init 162 = .ok (.putfield 68, 3) := by decide +kernel
theorem dX3_init_165 : decode cX3_init 165 = .ok (.aload_n 0, 1) := by decide +kernel
theorem dX3_init_166 : decode cX3_init 166 = .ok (.ldc 71, 2) := by decide +kernel
theorem dX3_init_168 : decode cX3_init 168 = .ok (.newarray .int, 2) := by decide +kernel
theorem dX3_init_170 : decode cX3_init 170 = .ok (.putfield 72, 3) := by decide +kernel
theorem dX3_init_173 : decode cX3_init 173 = .ok (.aload_n 0, 1) := by decide +kernel
theorem dX3_init_174 : decode cX3_init 174 = .ok (.bipush 30, 2) := by decide +kernel
theorem dX3_init_176 : decode cX3_init 176 = .ok (.newarray .int, 2) := by decide +kernel
theorem dX3_init_178 : decode cX3_init 178 = .ok (.putfield 75, 3) := by decide +kernel
theorem dX3_init_181 : decode cX3_init 181 = .ok (.aload_n 0, 1) := by decide +kernel
theorem dX3_init_182 : decode cX3_init 182 = .ok (.sipush 480, 3) := by decide +kernel
theorem dX3_init_185 : decode cX3_init 185 = .ok (.newarray .int, 2) := by decide +kernel
theorem dX3_init_187 : decode cX3_init 187 = .ok (.putfield 78, 3) := by decide +kernel
theorem dX3_init_190 : decode cX3_init 190 = .ok (.aload_n 0, 1) := by decide +kernel
theorem dX3_init_191 : decode cX3_init 191 = .ok (.iconst 4, 1) := by decide +kernel
theorem dX3_init_192 : decode cX3_init 192 = .ok (.invokevirtual 81, 3) := by decide +kernel
theorem dX3_init_195 : decode cX3_init 195 = .ok (.return_, 1) := by decide +kernel
theorem dX3_in_0 : decode cX3_in 0 = .ok (.lload_n 0, 1) := by decide +kernel
theorem dX3_in_1 : decode cX3_in 1 = .ok (.lload_n 2, 1) := by decide +kernel
theorem dX3_in_2 : decode cX3_in 2 = .ok (.lcmp, 1) := by decide +kernel
theorem dX3_in_3 : decode cX3_in 3 = .ok (.ifCond .lt 14, 3) := by decide +kernel
theorem dX3_in_6 : decode cX3_in 6 = .ok (.lload_n 0, 1) := by decide +kernel
theorem dX3_in_7 : decode cX3_in 7 = .ok (.lload 4, 2) := by decide +kernel
theorem dX3_in_9 : decode cX3_in 9 = .ok (.lcmp, 1) := by decide +kernel
theorem dX3_in_10 : decode cX3_in 10 = .ok (.ifCond .gt 7, 3) := by decide +kernel
theorem dX3_in_13 : decode cX3_in 13 = .ok (.iconst 1, 1) := by decide +kernel
theorem dX3_in_14 : decode cX3_in 14 = .ok (.goto 4, 3) := by decide +kernel
theorem dX3_in_17 : decode cX3_in 17 = .ok (.iconst 0, 1) := by decide +kernel
theorem dX3_in_18 : decode cX3_in 18 = .ok (.ireturn, 1) := by decide +kernel
theorem dX3_size_0 : decode cX3_size 0 = .ok (.iload_n 0, 1) := by decide +kernel
theorem dX3_size_1 : decode cX3_size 1 = .ok (.ifCond .ge 8, 3) := by decide +kernel
theorem dX3_size_4 : decode cX3_size 4 = .ok (.iload_n 0, 1) := by decide +kernel
theorem dX3_size_5 : decode cX3_size 5 = .ok (.ineg, 1) := by decide +kernel
theorem dX3_size_6 : decode cX3_size 6 = .ok (.goto 4, 3) := by decide +kernel
theorem dX3_size_9 : decode cX3_size 9 = .ok (.iload_n 0, 1) := by decide +kernel
theorem dX3_size_10 : decode cX3_size 10 = .ok (.ireturn, 1) := by decide +kernel
theorem dX3_noCard_0 : decode cX3_noCard 0 = .ok (.iload_n 1, 1) := by decide +kernel
theorem dX3_noCard_1 : decode cX3_noCard 1 = .ok (.i2l, 1) := by decide +kernel
theorem dX3_noCard_2 : decode cX3_noCard 2 = .ok (.lconst 0, 1) := by decide +kernel
theorem dX3_noCard_3 : decode cX3_noCard 3 = .ok (.aload_n 0, 1) := by decide +kernel
theorem dX3_noCard_4 : decode cX3_noCard 4 = .ok (.getfield 7, 3) := by decide +kernel
theorem dX3_noCard_7 : decode cX3_noCard 7 = .ok (.iconst 1, 1) := by decide +kernel
theorem dX3_noCard_8 : decode cX3_noCard 8 = .ok (.isub, 1) := by decide +kernel
theorem dX3_noCard_9 : decode cX3_noCard 9 = .ok (.i2l, 1) := by decide +kernel
theorem dX3_noCard_10 : decode cX3_noCard 10 = .ok (.invokestatic 88, 3) := by decide +kernel
theorem dX3_noCard_13 : decode cX3_noCard 13 = .ok (.ifCond .ne 7, 3) := by decide +kernel
theorem dX3_noCard_16 : decode cX3_noCard 16 = .ok (.iconst 1, 1) := by decide +kernel
theorem dX3_noCard_17 : decode cX3_noCard 17 = .ok (.goto 4, 3) := by decide +kernel
theorem dX3_noCard_20 : decode cX3_noCard 20 = .ok (.iconst 0, 1) := by decide +kernel
theorem dX3_noCard_21 : decode cX3_noCard 21 = .ok (.ireturn, 1) := by decide +kernel
theorem dX3_noPick_0 : decode cX3_noPick 0 = .ok (.iload_n 1, 1) := by decide +kernel
theorem dX3_noPick_1 : decode cX3_noPick 1 = .ok (.i2l, 1) := by decide +kernel
theorem dX3_noPick_2 : decode cX3_noPick 2 = .ok (.lconst 0, 1) := by decide +kernel
theorem dX3_noPick_3 : decode cX3_noPick 3 = .ok (.aload_n 0, 1) := by decide +kernel
theorem dX3_noPick_4 : decode cX3_noPick 4 = .ok (.getfield 92, 3) := by decide +kernel
theorem dX3_noPick_7 : decode cX3_noPick 7 = .ok (.iconst 1, 1) := by decide +kernel
theorem dX3_noPick_8 : decode cX3_noPick 8 = .ok (.isub, 1) := by decide +kernel
theorem dX3_noPick_9 : decode cX3_noPick 9 = .ok (.i2l, 1) := by decide +kernel
theorem dX3_noPick_10 : decode cX3_noPick 10 = .ok (.invokestatic 88, 3) := by decide +kernel
theorem dX3_noPick_13 : decode cX3_noPick 13 = .ok (.ifCond .ne 7, 3) := by decide +kernel
theorem dX3_noPick_16 : decode cX3_noPick 16 = .ok (.iconst 1, 1) := by decide +kernel
theorem dX3_noPick_17 : decode cX3_noPick 17 = .ok (.goto 4, 3) := by decide +kernel
theorem dX3_noPick_20 : decode cX3_noPick 20 = .ok (.iconst 0, 1) := by decide +kernel
theorem dX3_noPick_21 : decode cX3_noPick 21 = .ok (.ireturn, 1) := by decide +kernel
theorem dX3_begin_0 : decode cX3_begin 0 = .ok (.aload_n 0, 1) := by decide +kernel
theorem dX3_begin_1 : decode cX3_begin 1 = .ok (.iload_n 1, 1) := by decide +kernel
theorem dX3_begin_2 : decode cX3_begin 2 = .ok (.putfield 7, 3) := by decide +kernel
theorem dX3_begin_5 : decode cX3_begin 5 = .ok (.aload_n 0, 1) := by decide +kernel
theorem dX3_begin_6 : decode cX3_begin 6 = .ok (.iconst 0, 1) := by decide +kernel
theorem dX3_begin_7 : decode cX3_begin 7 = .ok (.putfield 92, 3) := by decide +kernel
theorem dX3_begin_10 : decode cX3_begin 10 = .ok (.aload_n 0, 1) := by decide +kernel
theorem dX3_begin_11 : decode cX3_begin 11 = .ok (.iconst 1, 1) := by decide +kernel
theorem dX3_begin_12 : decode cX3_begin 12 = .ok (.putfield 65, 3) := by decide +kernel
theorem dX3_begin_15 : decode cX3_begin 15 = .ok (.aload_n 0, 1) := by decide +kernel
theorem dX3_begin_16 : decode cX3_begin 16 = .ok (.iconst 3, 1) := by decide +kernel
theorem dX3_begin_17 : decode cX3_begin 17 = .ok (.putfield 68, 3) := by decide +kernel
theorem dX3_begin_20 : decode cX3_begin 20 = .ok (.iconst 0, 1) := by decide +kernel
theorem dX3_begin_21 : decode cX3_begin 21 = .ok (.istore_n 2, 1) := by decide +kernel
theorem dX3_begin_22 : decode cX3_begin 22 = .ok (.iload_n 2, 1) := by decide +kernel
theorem dX3_begin_23 : decode cX3_begin 23 = .ok (.bipush 64, 2) := by decide +kernel
theorem dX3_begin_25 : decode cX3_begin 25 = .ok (.if_icmp .ge 27, 3) := by decide +kernel
theorem dX3_begin_28 : decode cX3_begin 28 = .ok (.aload_n 0, 1) := by decide +kernel
theorem dX3_begin_29 : decode cX3_begin 29 = .ok (.getfield 13, 3) := by decide +kernel
theorem dX3_begin_32 : decode cX3_begin 32 = .ok (.iload_n 2, 1) := by decide +kernel
theorem dX3_begin_33 : decode cX3_begin 33 = .ok (.iload_n 2, 1) := by decide +kernel
theorem dX3_begin_34 : decode cX3_begin 34 = .ok (.iconst 4, 1) := by decide +kernel
theorem dX3_begin_35 : decode cX3_begin 35 = .ok (.irem, 1) := by decide +kernel
theorem dX3_begin_36 : decode cX3_begin 36 = .ok (.iastore, 1) := by decide +kernel
theorem dX3_begin_37 : decode cX3_begin 37 = .ok (.aload_n 0, 1) := by decide +kernel
theorem dX3_begin_38 : decode cX3_begin 38 = .ok (.getfield 17, 3) := by decide +kernel
theorem dX3_begin_41 : decode cX3_begin 41 = .ok (.iload_n 2, 1) := by decide +kernel
theorem dX3_begin_42 : decode cX3_begin 42 = .ok (.iload_n 2, 1) := by decide +kernel
theorem dX3_begin_43 : decode cX3_begin 43 = .ok (.iconst 4, 1) := by decide +kernel
theorem dX3_begin_44 : decode cX3_begin 44 = .ok (.irem, 1) := by decide +kernel
theorem dX3_begin_45 : decode cX3_begin 45 = .ok (.iastore, 1) := by decide +kernel
theorem dX3_begin_46 : decode cX3_begin 46 = .ok (.iinc 2 1, 3) := by decide +kernel
theorem dX3_begin_49 : decode cX3_begin 49 = .ok (.goto (-27), 3) := by decide +kernel
theorem dX3_begin_52 : decode cX3_begin 52 = .ok (.iconst 0, 1) := by decide +kernel
theorem dX3_begin_53 : decode cX3_begin 53 = .ok (.istore_n 2, 1) := by decide +kernel
theorem dX3_begin_54 : decode cX3_begin 54 = .ok (.iload_n 2, 1) := by decide +kernel
theorem dX3_begin_55 : decode cX3_begin 55 = .ok (.bipush 16, 2) := by decide +kernel
theorem dX3_begin_57 : decode cX3_begin 57 = .ok (.if_icmp .ge 44, 3) := by decide +kernel
theorem dX3_begin_60 : decode cX3_begin 60 = .ok (.aload_n 0, 1) := by decide +kernel
theorem dX3_begin_61 : decode cX3_begin 61 = .ok (.getfield 20, 3) := by decide +kernel
theorem dX3_begin_64 : decode cX3_begin 64 = .ok (.iload_n 2, 1) := by decide +kernel
theorem dX3_begin_65 : decode cX3_begin 65 = .ok (.iconst 0, 1) := by decide +kernel
theorem dX3_begin_66 : decode cX3_begin 66 = .ok (.iastore, 1) := by decide +kernel
theorem dX3_begin_67 : decode cX3_begin 67 = .ok (.aload_n 0, 1) := by decide +kernel
theorem dX3_begin_68 : decode cX3_begin 68 = .ok (.getfield 23, 3) := by decide +kernel
theorem dX3_begin_71 : decode cX3_begin 71 = .ok (.iload_n 2, 1) := by decide +kernel
theorem dX3_begin_72 : decode cX3_begin 72 = .ok (.iconst 0, 1) := by decide +kernel
theorem dX3_begin_73 : decode cX3_begin 73 = .ok (.iastore, 1) := by decide +kernel
theorem dX3_begin_74 : decode cX3_begin 74 = .ok (.aload_n 0, 1) := by decide +kernel
theorem dX3_begin_75 : decode cX3_begin 75 = .ok (.getfield 26, 3) := by decide +kernel
theorem dX3_begin_78 : decode cX3_begin 78 = .ok (.iload_n 2, 1) := by decide +kernel
theorem dX3_begin_79 : decode cX3_begin 79 = .ok (.iconst 0, 1) := by decide +kernel
theorem dX3_begin_80 : decode cX3_begin 80 = .ok (.iastore, 1) := by decide +kernel
theorem dX3_begin_81 : decode cX3_begin 81 = .ok (.aload_n 0, 1) := by decide +kernel
theorem dX3_begin_82 : decode cX3_begin 82 = .ok (.getfield 29, 3) := by decide +kernel
theorem dX3_begin_85 : decode cX3_begin 85 = .ok (.iload_n 2, 1) := by decide +kernel
theorem dX3_begin_86 : decode cX3_begin 86 = .ok (.iconst 0, 1) := by decide +kernel
theorem dX3_begin_87 : decode cX3_begin 87 = .ok (.iastore, 1) := by decide +kernel
theorem dX3_begin_88 : decode cX3_begin 88 = .ok (.aload_n 0, 1) := by decide +kernel
theorem dX3_begin_89 : decode cX3_begin 89 = .ok (.getfield 32, 3) := by decide +kernel
theorem dX3_begin_92 : decode cX3_begin 92 = .ok (.iload_n 2, 1) := by decide +kernel
theorem dX3_begin_93 : decode cX3_begin 93 = .ok (.iconst 0, 1) := by decide +kernel
theorem dX3_begin_94 : decode cX3_begin 94 = .ok (.iastore, 1) := by decide +kernel
theorem dX3_begin_95 : decode cX3_begin 95 = .ok (.iinc 2 1, 3) := by decide +kernel
theorem dX3_begin_98 : decode cX3_begin 98 = .ok (.goto (-44), 3) := by decide +kernel
theorem dX3_begin_101 : decode cX3_begin 101 = .ok (.iconst 0, 1) := by decide +kernel
theorem dX3_begin_102 : decode cX3_begin 102 = .ok (.istore_n 2, 1) := by decide +kernel
theorem dX3_begin_103 : decode cX3_begin 103 = .ok (.iload_n 2, 1) := by decide +kernel
theorem dX3_begin_104 : decode cX3_begin 104 = .ok (.sipush 480, 3) := by decide +kernel
theorem dX3_begin_107 : decode cX3_begin 107 = .ok (.if_icmp .ge 17, 3) := by decide +kernel
theorem dX3_begin_110 : decode cX3_begin 110 = .ok (.aload_n 0, 1) := by decide +kernel
theorem dX3_begin_111 : decode cX3_begin 111 = .ok (.getfield 62, 3) := by decide +kernel
theorem dX3_begin_114 : decode cX3_begin 114 = .ok (.iload_n 2, 1) := by decide +kernel
theorem dX3_begin_115 : decode cX3_begin 115 = .ok (.bipush (-99), 2) := by decide +kernel
theorem dX3_begin_117 : decode cX3_begin 117 = .ok (.iastore, 1) := by decide +kernel
theorem dX3_begin_118 : decode cX3_begin 118 = .ok (.iinc 2 1, 3) := by decide +kernel
theorem dX3_begin_121 : decode cX3_begin 121 = .ok (.goto (-18), 3) := by decide +kernel
theorem dX3_begin_124 : decode cX3_begin 124 = .ok (.return_, 1) := by decide +kernel
theorem dX3_cards_0 : decode cX3_cards 0 = .ok (.aload_n 0, 1) := by decide +kernel
theorem dX3_cards_1 : decode cX3_cards 1 = .ok (.iconst 0, 1) := by decide +kernel
theorem dX3_cards_2 : decode cX3_cards 2 = .ok (.putfield 85, 3) := by decide +kernel
theorem dX3_cards_5 : decode cX3_cards 5 = .ok (.iload_n 1, 1) := by decide +kernel
theorem dX3_cards_6 : decode cX3_cards 6 = .ok (.i2l, 1) := by decide +kernel
theorem dX3_cards_7 : decode cX3_cards 7 = .ok (.lconst 1, 1) := by decide +kernel
theorem dX3_cards_8 : decode cX3_cards 8 = .ok (.ldc2_w 95, 3) := by decide +kernel
theorem dX3_cards_11 : decode cX3_cards 11 = .ok (.invokestatic 88, 3) := by decide +kernel
theorem dX3_cards_14 : decode cX3_cards 14 = .ok (.ifCond .ne 6, 3) := by decide +kernel
theorem dX3_cards_17 : decode cX3_cards 17 = .ok (.bipush (-2), 2) := by decide +kernel
theorem dX3_cards_19 : decode cX3_cards 19 = .ok (.ireturn, 1) := by decide +kernel
theorem dX3_cards_20 : decode cX3_cards 20 = .ok (.aload_n 0, 1) := by decide +kernel
theorem dX3_cards_21 : decode cX3_cards 21 = .ok (.getfield 7, 3) := by decide +kernel
theorem dX3_cards_24 : decode cX3_cards 24 = .ok (.istore_n 2, 1) := by decide +kernel
theorem dX3_cards_25 : decode cX3_cards 25 = .ok (.aload_n 0, 1) := by decide +kernel
theorem dX3_cards_26 : decode cX3_cards 26 = .ok (.iload_n 1, 1) := by decide +kernel
theorem dX3_cards_27 : decode cX3_cards 27 = .ok (.invokevirtual 81, 3) := by decide +kernel
theorem dX3_cards_30 : decode cX3_cards 30 = .ok (.iload_n 2, 1) := by decide +kernel
theorem dX3_cards_31 : decode cX3_cards 31 = .ok (.ireturn, 1) := by decide +kernel
theorem dX3_thread_0 : decode cX3_thread 0 = .ok (.aload_n 0, 1) := by decide +kernel
theorem dX3_thread_1 : decode cX3_thread 1 = .ok (.iconst 0, 1) := by decide +kernel
theorem dX3_thread_2 : decode cX3_thread 2 = .ok (.putfield 85, 3) := by decide +kernel
theorem dX3_thread_5 : decode cX3_thread 5 = .ok (.aload_n 0, 1) := by decide +kernel
theorem dX3_thread_6 : decode cX3_thread 6 = .ok (.iload_n 1, 1) := by decide +kernel
theorem dX3_thread_7 : decode cX3_thread 7 = .ok (.invokevirtual 97, 3) := by decide +kernel
theorem dX3_thread_10 : decode cX3_thread 10 = .ok (.ifCond .ne 15, 3) := by decide +kernel
theorem dX3_thread_13 : decode cX3_thread 13 = .ok (.iload_n 2, 1) := by decide +kernel
theorem dX3_thread_14 : decode cX3_thread 14 = .ok (.i2l, 1) := by decide +kernel
theorem dX3_thread_15 : decode cX3_thread 15 = .ok (.lconst 0, 1) := by decide +kernel
theorem dX3_thread_16 : decode cX3_thread 16 = .ok (.ldc2_w 101, 3) := by decide +kernel
theorem dX3_thread_19 : decode cX3_thread 19 = .ok (.invokestatic 88, 3) := by decide +kernel
theorem dX3_thread_22 : decode cX3_thread 22 = .ok (.ifCond .ne 5, 3) := by decide +kernel
theorem dX3_thread_25 : decode cX3_thread 25 = .ok (.iconst (-1), 1) := by decide +kernel
theorem dX3_thread_26 : decode cX3_thread 26 = .ok (.ireturn, 1) := by decide +kernel
theorem dX3_thread_27 : decode cX3_thread 27 = .ok (.iload_n 3, 1) := by decide +kernel
theorem dX3_thread_28 : decode cX3_thread 28 = .ok (.i2l, 1) := by decide +kernel
theorem dX3_thread_29 : decode cX3_thread 29 = .ok (.lconst 0, 1) := by decide +kernel
theorem dX3_thread_30 : decode cX3_thread 30 = .ok (.ldc2_w 103, 3) := by decide +kernel
theorem dX3_thread_33 : decode cX3_thread 33 = .ok (.invokestatic 88, 3) := by decide +kernel
theorem dX3_thread_36 : decode cX3_thread 36 = .ok (.ifCond .ne 6, 3) := by decide +kernel
theorem dX3_thread_39 : decode cX3_thread 39 = .ok (.bipush (-2), 2) := by decide +kernel
theorem dX3_thread_41 : decode cX3_thread 41 = .ok (.ireturn, 1) := by decide +kernel
theorem dX3_thread_42 : decode cX3_thread 42 = .ok (.aload_n 0, 1) := by decide +kernel
theorem dX3_thread_43 : decode cX3_thread 43 = .ok (.getfield 92, 3) := by decide +kernel
theorem dX3_thread_46 : decode cX3_thread 46 = .ok (.ifCond .le 6, 3) := by decide +kernel
theorem dX3_thread_49 : decode cX3_thread 49 = .ok (.bipush (-3), 2) := by decide +kernel
theorem dX3_thread_51 : decode cX3_thread 51 = .ok (.ireturn, 1) := by decide +kernel
theorem dX3_thread_52 : decode cX3_thread 52 = .ok (.aload_n 0, 1) := by decide +kernel
theorem dX3_thread_53 : decode cX3_thread 53 = .ok (.getfield 13, 3) := by decide +kernel
theorem dX3_thread_56 : decode cX3_thread 56 = .ok (.iconst 4, 1) := by decide +kernel
theorem dX3_thread_57 : decode cX3_thread 57 = .ok (.iload_n 1, 1) := by decide +kernel
theorem dX3_thread_58 : decode cX3_thread 58 = .ok (.imul, 1) := by decide +kernel
theorem dX3_thread_59 : decode cX3_thread 59 = .ok (.iload_n 2, 1) := by decide +kernel
theorem dX3_thread_60 : decode cX3_thread 60 = .ok (.iadd, 1) := by decide +kernel
theorem dX3_thread_61 : decode cX3_thread 61 = .ok (.iaload, 1) := by decide +kernel
theorem dX3_thread_62 : decode cX3_thread 62 = .ok (.istore 4, 2) := by decide +kernel
theorem dX3_thread_64 : decode cX3_thread 64 = .ok (.aload_n 0, 1) := by decide +kernel
theorem dX3_thread_65 : decode cX3_thread 65 = .ok (.getfield 13, 3) := by decide +kernel
theorem dX3_thread_68 : decode cX3_thread 68 = .ok (.iconst 4, 1) := by decide +kernel
theorem dX3_thread_69 : decode cX3_thread 69 = .ok (.iload_n 1, 1) := by decide +kernel
theorem dX3_thread_70 : decode cX3_thread 70 = .ok (.imul, 1) := by decide +kernel
theorem dX3_thread_71 : decode cX3_thread 71 = .ok (.iload_n 2, 1) := by decide +kernel
theorem dX3_thread_72 : decode cX3_thread 72 = .ok (.iadd, 1) := by decide +kernel
theorem dX3_thread_73 : decode cX3_thread 73 = .ok (.iload_n 3, 1) := by decide +kernel
theorem dX3_thread_74 : decode cX3_thread 74 = .ok (.iastore, 1) := by decide +kernel
theorem dX3_thread_75 : decode cX3_thread 75 = .ok (.iload 4, 2) := by decide +kernel
theorem dX3_thread_77 : decode cX3_thread 77 = .ok (.ireturn, 1) := by decide +kernel
theorem dX3_way_0 : decode cX3_way 0 = .ok (.aload_n 0, 1) := by decide +kernel
theorem dX3_way_1 : decode cX3_way 1 = .ok (.iconst 0, 1) := by decide +kernel
theorem dX3_way_2 : decode cX3_way 2 = .ok (.putfield 85, 3) := by decide +kernel
theorem dX3_way_5 : decode cX3_way 5 = .ok (.aload_n 0, 1) := by decide +kernel
theorem dX3_way_6 : decode cX3_way 6 = .ok (.iload_n 1, 1) := by decide +kernel
theorem dX3_way_7 : decode cX3_way 7 = .ok (.invokevirtual 97, 3) := by decide +kernel
theorem dX3_way_10 : decode cX3_way 10 = .ok (.ifCond .eq 5, 3) := by decide +kernel
theorem dX3_way_13 : decode cX3_way 13 = .ok (.iconst (-1), 1) := by decide +kernel
theorem dX3_way_14 : decode cX3_way 14 = .ok (.ireturn, 1) := by decide +kernel
theorem dX3_way_15 : decode cX3_way 15 = .ok (.iload_n 2, 1) := by decide +kernel
theorem dX3_way_16 : decode cX3_way 16 = .ok (.i2l, 1) := by decide +kernel
theorem dX3_way_17 : decode cX3_way 17 = .ok (.lconst 0, 1) := by decide +kernel
theorem dX3_way_18 : decode cX3_way 18 = .ok (.lconst 1, 1) := by decide +kernel
theorem dX3_way_19 : decode cX3_way 19 = .ok (.invokestatic 88, 3) := by decide +kernel
theorem dX3_way_22 : decode cX3_way 22 = .ok (.ifCond .ne 6, 3) := by decide +kernel
theorem dX3_way_25 : decode cX3_way 25 = .ok (.bipush (-2), 2) := by decide +kernel
theorem dX3_way_27 : decode cX3_way 27 = .ok (.ireturn, 1) := by decide +kernel
theorem dX3_way_28 : decode cX3_way 28 = .ok (.aload_n 0, 1) := by decide +kernel
theorem dX3_way_29 : decode cX3_way 29 = .ok (.getfield 92, 3) := by decide +kernel
theorem dX3_way_32 : decode cX3_way 32 = .ok (.ifCond .le 6, 3) := by decide +kernel
theorem dX3_way_35 : decode cX3_way 35 = .ok (.bipush (-3), 2) := by decide +kernel
theorem dX3_way_37 : decode cX3_way 37 = .ok (.ireturn, 1) := by decide +kernel
theorem dX3_way_38 : decode cX3_way 38 = .ok (.aload_n 0, 1) := by decide +kernel
theorem dX3_way_39 : decode cX3_way 39 = .ok (.getfield 20, 3) := by decide +kernel
theorem dX3_way_42 : decode cX3_way 42 = .ok (.iload_n 1, 1) := by decide +kernel
theorem dX3_way_43 : decode cX3_way 43 = .ok (.iaload, 1) := by decide +kernel
theorem dX3_way_44 : decode cX3_way 44 = .ok (.istore_n 3, 1) := by decide +kernel
theorem dX3_way_45 : decode cX3_way 45 = .ok (.aload_n 0, 1) := by decide +kernel
theorem dX3_way_46 : decode cX3_way 46 = .ok (.getfield 20, 3) := by decide +kernel
theorem dX3_way_49 : decode cX3_way 49 = .ok (.iload_n 1, 1) := by decide +kernel
theorem dX3_way_50 : decode cX3_way 50 = .ok (.iload_n 2, 1) := by decide +kernel
theorem dX3_way_51 : decode cX3_way 51 = .ok (.iastore, 1) := by decide +kernel
theorem dX3_way_52 : decode cX3_way 52 = .ok (.iload_n 3, 1) := by decide +kernel
theorem dX3_way_53 : decode cX3_way 53 = .ok (.ireturn, 1) := by decide +kernel
theorem dX3_flip_0 : decode cX3_flip 0 = .ok (.aload_n 0, 1) := by decide +kernel
theorem dX3_flip_1 : decode cX3_flip 1 = .ok (.iconst 0, 1) := by decide +kernel
theorem dX3_flip_2 : decode cX3_flip 2 = .ok (.putfield 85, 3) := by decide +kernel
theorem dX3_flip_5 : decode cX3_flip 5 = .ok (.aload_n 0, 1) := by decide +kernel
theorem dX3_flip_6 : decode cX3_flip 6 = .ok (.iload_n 1, 1) := by decide +kernel
theorem dX3_flip_7 : decode cX3_flip 7 = .ok (.invokevirtual 97, 3) := by decide +kernel
theorem dX3_flip_10 : decode cX3_flip 10 = .ok (.ifCond .eq 5, 3) := by decide +kernel
theorem dX3_flip_13 : decode cX3_flip 13 = .ok (.iconst (-1), 1) := by decide +kernel
theorem dX3_flip_14 : decode cX3_flip 14 = .ok (.ireturn, 1) := by decide +kernel
theorem dX3_flip_15 : decode cX3_flip 15 = .ok (.iconst 4, 1) := by decide +kernel
theorem dX3_flip_16 : decode cX3_flip 16 = .ok (.iload_n 1, 1) := by decide +kernel
theorem dX3_flip_17 : decode cX3_flip 17 = .ok (.imul, 1) := by decide +kernel
theorem dX3_flip_18 : decode cX3_flip 18 = .ok (.istore_n 2, 1) := by decide +kernel
theorem dX3_flip_19 : decode cX3_flip 19 = .ok (.aload_n 0, 1) := by decide +kernel
theorem dX3_flip_20 : decode cX3_flip 20 = .ok (.getfield 17, 3) := by decide +kernel
theorem dX3_flip_23 : decode cX3_flip 23 = .ok (.iload_n 2, 1) := by decide +kernel
theorem dX3_flip_24 : decode cX3_flip 24 = .ok (.iaload, 1) := by decide +kernel
theorem dX3_flip_25 : decode cX3_flip 25 = .ok (.istore_n 3, 1) := by decide +kernel
theorem dX3_flip_26 : decode cX3_flip 26 = .ok (.aload_n 0, 1) := by decide +kernel
theorem dX3_flip_27 : decode cX3_flip 27 = .ok (.getfield 17, 3) := by decide +kernel
theorem dX3_flip_30 : decode cX3_flip 30 = .ok (.iload_n 2, 1) := by decide +kernel
theorem dX3_flip_31 : decode cX3_flip 31 = .ok (.aload_n 0, 1) := by decide +kernel
theorem dX3_flip_32 : decode cX3_flip 32 = .ok (.getfield 17, 3) := by decide +kernel
theorem dX3_flip_35 : decode cX3_flip 35 = .ok (.iload_n 2, 1) := by decide +kernel
theorem dX3_flip_36 : decode cX3_flip 36 = .ok (.iconst 1, 1) := by decide +kernel
theorem dX3_flip_37 : decode cX3_flip 37 = .ok (.iadd, 1) := by decide +kernel
theorem dX3_flip_38 : decode cX3_flip 38 = .ok (.iaload, 1) := by decide +kernel
theorem dX3_flip_39 : decode cX3_flip 39 = .ok (.iastore, 1) := by decide +kernel
theorem dX3_flip_40 : decode cX3_flip 40 = .ok (.aload_n 0, 1) := by decide +kernel
theorem dX3_flip_41 : decode cX3_flip 41 = .ok (.getfield 17, 3) := by decide +kernel
theorem dX3_flip_44 : decode cX3_flip 44 = .ok (.iload_n 2, 1) := by decide +kernel
theorem dX3_flip_45 : decode cX3_flip 45 = .ok (.iconst 1, 1) := by decide +kernel
theorem dX3_flip_46 : decode cX3_flip 46 = .ok (.iadd, 1) := by decide +kernel
theorem dX3_flip_47 : decode cX3_flip 47 = .ok (.iload_n 3, 1) := by decide +kernel
theorem dX3_flip_48 : decode cX3_flip 48 = .ok (.iastore, 1) := by decide +kernel
theorem dX3_flip_49 : decode cX3_flip 49 = .ok (.aload_n 0, 1) := by decide +kernel
theorem dX3_flip_50 : decode cX3_flip 50 = .ok (.getfield 17, 3) := by decide +kernel
theorem dX3_flip_53 : decode cX3_flip 53 = .ok (.iload_n 2, 1) := by decide +kernel
theorem dX3_flip_54 : decode cX3_flip 54 = .ok (.iconst 2, 1) := by decide +kernel
theorem dX3_flip_55 : decode cX3_flip 55 = .ok (.iadd, 1) := by decide +kernel
theorem dX3_flip_56 : decode cX3_flip 56 = .ok (.iaload, 1) := by decide +kernel
theorem dX3_flip_57 : decode cX3_flip 57 = .ok (.istore_n 3, 1) := by decide +kernel
theorem dX3_flip_58 : decode cX3_flip 58 = .ok (.aload_n 0, 1) := by decide +kernel
theorem dX3_flip_59 : decode cX3_flip 59 = .ok (.getfield 17, 3) := by decide +kernel
theorem dX3_flip_62 : decode cX3_flip 62 = .ok (.iload_n 2, 1) := by decide +kernel
theorem dX3_flip_63 : decode cX3_flip 63 = .ok (.iconst 2, 1) := by decide +kernel
theorem dX3_flip_64 : decode cX3_flip 64 = .ok (.iadd, 1) := by decide +kernel
theorem dX3_flip_65 : decode cX3_flip 65 = .ok (.aload_n 0, 1) := by decide +kernel
theorem dX3_flip_66 : decode cX3_flip 66 = .ok (.getfield 17, 3) := by decide +kernel
theorem dX3_flip_69 : decode cX3_flip 69 = .ok (.iload_n 2, 1) := by decide +kernel
theorem dX3_flip_70 : decode cX3_flip 70 = .ok (.iconst 3, 1) := by decide +kernel
theorem dX3_flip_71 : decode cX3_flip 71 = .ok (.iadd, 1) := by decide +kernel
theorem dX3_flip_72 : decode cX3_flip 72 = .ok (.iaload, 1) := by decide +kernel
theorem dX3_flip_73 : decode cX3_flip 73 = .ok (.iastore, 1) := by decide +kernel
theorem dX3_flip_74 : decode cX3_flip 74 = .ok (.aload_n 0, 1) := by decide +kernel
theorem dX3_flip_75 : decode cX3_flip 75 = .ok (.getfield 17, 3) := by decide +kernel
theorem dX3_flip_78 : decode cX3_flip 78 = .ok (.iload_n 2, 1) := by decide +kernel
theorem dX3_flip_79 : decode cX3_flip 79 = .ok (.iconst 3, 1) := by decide +kernel
theorem dX3_flip_80 : decode cX3_flip 80 = .ok (.iadd, 1) := by decide +kernel
theorem dX3_flip_81 : decode cX3_flip 81 = .ok (.iload_n 3, 1) := by decide +kernel
theorem dX3_flip_82 : decode cX3_flip 82 = .ok (.iastore, 1) := by decide +kernel
theorem dX3_flip_83 : decode cX3_flip 83 = .ok (.aload_n 0, 1) := by decide +kernel
theorem dX3_flip_84 : decode cX3_flip 84 = .ok (.getfield 20, 3) := by decide +kernel
theorem dX3_flip_87 : decode cX3_flip 87 = .ok (.iload_n 1, 1) := by decide +kernel
theorem dX3_flip_88 : decode cX3_flip 88 = .ok (.iconst 1, 1) := by decide +kernel
theorem dX3_flip_89 : decode cX3_flip 89 = .ok (.aload_n 0, 1) := by decide +kernel
theorem dX3_flip_90 : decode cX3_flip 90 = .ok (.getfield 20, 3) := by decide +kernel
theorem dX3_flip_93 : decode cX3_flip 93 = .ok (.iload_n 1, 1) := by decide +kernel
theorem dX3_flip_94 : decode cX3_flip 94 = .ok (.iaload, 1) := by decide +kernel
theorem dX3_flip_95 : decode cX3_flip 95 = .ok (.isub, 1) := by decide +kernel
theorem dX3_flip_96 : decode cX3_flip 96 = .ok (.iastore, 1) := by decide +kernel
theorem dX3_flip_97 : decode cX3_flip 97 = .ok (.aload_n 0, 1) := by decide +kernel
theorem dX3_flip_98 : decode cX3_flip 98 = .ok (.getfield 32, 3) := by decide +kernel
theorem dX3_flip_101 : decode cX3_flip 101 = .ok (.iload_n 1, 1) := by decide +kernel
theorem dX3_flip_102 : decode cX3_flip 102 = .ok (.dup2, 1) := by decide +kernel
theorem dX3_flip_103 : decode cX3_flip 103 = .ok (.iaload, 1) := by decide +kernel
theorem dX3_flip_104 : decode cX3_flip 104 = .ok (.iconst 1, 1) := by decide +kernel
theorem dX3_flip_105 : decode cX3_flip 105 = .ok (.iadd, 1) := by decide +kernel
theorem dX3_flip_106 : decode cX3_flip 106 = .ok (.iastore, 1) := by decide +kernel
theorem dX3_flip_107 : decode cX3_flip 107 = .ok (.aload_n 0, 1) := by decide +kernel
theorem dX3_flip_108 : decode cX3_flip 108 = .ok (.getfield 20, 3) := by decide +kernel
theorem dX3_flip_111 : decode cX3_flip 111 = .ok (.iload_n 1, 1) := by decide +kernel
theorem dX3_flip_112 : decode cX3_flip 112 = .ok (.iaload, 1) := by decide +kernel
theorem dX3_flip_113 : decode cX3_flip 113 = .ok (.ireturn, 1) := by decide +kernel
theorem dX3_pack_0 : decode cX3_pack 0 = .ok (.aload_n 0, 1) := by decide +kernel
theorem dX3_pack_1 : decode cX3_pack 1 = .ok (.iconst 0, 1) := by decide +kernel
theorem dX3_pack_2 : decode cX3_pack 2 = .ok (.putfield 85, 3) := by decide +kernel
theorem dX3_pack_5 : decode cX3_pack 5 = .ok (.aload_n 0, 1) := by decide +kernel
theorem dX3_pack_6 : decode cX3_pack 6 = .ok (.iload_n 1, 1) := by decide +kernel
theorem dX3_pack_7 : decode cX3_pack 7 = .ok (.invokevirtual 97, 3) := by decide +kernel
theorem dX3_pack_10 : decode cX3_pack 10 = .ok (.ifCond .ne 15, 3) := by decide +kernel
theorem dX3_pack_13 : decode cX3_pack 13 = .ok (.iload_n 2, 1) := by decide +kernel
theorem dX3_pack_14 : decode cX3_pack 14 = .ok (.i2l, 1) := by decide +kernel
theorem dX3_pack_15 : decode cX3_pack 15 = .ok (.lconst 0, 1) := by decide +kernel
theorem dX3_pack_16 : decode cX3_pack 16 = .ok (.ldc2_w 101, 3) := by decide +kernel
theorem dX3_pack_19 : decode cX3_pack 19 = .ok (.invokestatic 88, 3) := by decide +kernel
theorem dX3_pack_22 : decode cX3_pack 22 = .ok (.ifCond .ne 5, 3) := by decide +kernel
theorem dX3_pack_25 : decode cX3_pack 25 = .ok (.iconst (-1), 1) := by decide +kernel
theorem dX3_pack_26 : decode cX3_pack 26 = .ok (.ireturn, 1) := by decide +kernel
theorem dX3_pack_27 : decode cX3_pack 27 = .ok (.aload_n 0, 1) := by decide +kernel
theorem dX3_pack_28 : decode cX3_pack 28 = .ok (.getfield 23, 3) := by decide +kernel
theorem dX3_pack_31 : decode cX3_pack 31 = .ok (.iload_n 1, 1) := by decide +kernel
theorem dX3_pack_32 : decode cX3_pack 32 = .ok (.iaload, 1) := by decide +kernel
theorem dX3_pack_33 : decode cX3_pack 33 = .ok (.istore_n 3, 1) := by decide +kernel
theorem dX3_pack_34 : decode cX3_pack 34 = .ok (.aload_n 0, 1) := by decide +kernel
theorem dX3_pack_35 : decode cX3_pack 35 = .ok (.getfield 23, 3) := by decide +kernel
theorem dX3_pack_38 : decode cX3_pack 38 = .ok (.iload_n 1, 1) := by decide +kernel
theorem dX3_pack_39 : decode cX3_pack 39 = .ok (.iload_n 2, 1) := by decide +kernel
theorem dX3_pack_40 : decode cX3_pack 40 = .ok (.iastore, 1) := by decide +kernel
theorem dX3_pack_41 : decode cX3_pack 41 = .ok (.iload_n 3, 1) := by decide +kernel
theorem dX3_pack_42 : decode cX3_pack 42 = .ok (.ireturn, 1) := by decide +kernel
theorem dX3_about_0 : decode cX3_about 0 = .ok (.aload_n 0, 1) := by decide +kernel
theorem dX3_about_1 : decode cX3_about 1 = .ok (.iconst 0, 1) := by decide +kernel
theorem dX3_about_2 : decode cX3_about 2 = .ok (.putfield 85, 3) := by decide +kernel
theorem dX3_about_5 : decode cX3_about 5 = .ok (.aload_n 0, 1) := by decide +kernel
theorem dX3_about_6 : decode cX3_about 6 = .ok (.iload_n 1, 1) := by decide +kernel
theorem dX3_about_7 : decode cX3_about 7 = .ok (.invokevirtual 97, 3) := by decide +kernel
theorem dX3_about_10 : decode cX3_about 10 = .ok (.ifCond .eq 5, 3) := by decide +kernel
theorem dX3_about_13 : decode cX3_about 13 = .ok (.iconst (-1), 1) := by decide +kernel
theorem dX3_about_14 : decode cX3_about 14 = .ok (.ireturn, 1) := by decide +kernel
theorem dX3_about_15 : decode cX3_about 15 = .ok (.iload_n 2, 1) := by decide +kernel
theorem dX3_about_16 : decode cX3_about 16 = .ok (.tableswitch 74 0 4 #[36, 43, 50, 60, 67], 36) := by decide +kernel
theorem dX3_about_52 : decode cX3_about 52 = .ok (.aload_n 0, 1) := by decide +kernel
theorem dX3_about_53 : decode cX3_about 53 = .ok (.getfield 20, 3) := by decide +kernel
theorem dX3_about_56 : decode cX3_about 56 = .ok (.iload_n 1, 1) := by decide +kernel
theorem dX3_about_57 : decode cX3_about 57 = .ok (.iaload, 1) := by decide +kernel
theorem dX3_about_58 : decode cX3_about 58 = .ok (.ireturn, 1) := by decide +kernel
theorem dX3_about_59 : decode cX3_about 59 = .ok (.aload_n 0, 1) := by decide +kernel
theorem dX3_about_60 : decode cX3_about 60 = .ok (.getfield 23, 3) := by decide +kernel
theorem dX3_about_63 : decode cX3_about 63 = .ok (.iload_n 1, 1) := by decide +kernel
theorem dX3_about_64 : decode cX3_about 64 = .ok (.iaload, 1) := by decide +kernel
theorem dX3_about_65 : decode cX3_about 65 = .ok (.ireturn, 1) := by decide +kernel
theorem dX3_about_66 : decode cX3_about 66 = .ok (.aload_n 0, 1) := by decide +kernel
theorem dX3_about_67 : decode cX3_about 67 = .ok (.getfield 26, 3) := by decide +kernel
theorem dX3_about_70 : decode cX3_about 70 = .ok (.iload_n 1, 1) := by decide +kernel
theorem dX3_about_71 : decode cX3_about 71 = .ok (.iaload, 1) := by decide +kernel
theorem dX3_about_72 : decode cX3_about 72 = .ok (.bipush 100, 2) := by decide +kernel
theorem dX3_about_74 : decode cX3_about 74 = .ok (.iadd, 1) := by decide +kernel
theorem dX3_about_75 : decode cX3_about 75 = .ok (.ireturn, 1) := by decide +kernel
theorem dX3_about_76 : decode cX3_about 76 = .ok (.aload_n 0, 1) := by decide +kernel
theorem dX3_about_77 : decode cX3_about 77 = .ok (.getfield 29, 3) := by decide +kernel
theorem dX3_about_80 : decode cX3_about 80 = .ok (.iload_n 1, 1) := by decide +kernel
theorem dX3_about_81 : decode cX3_about 81 = .ok (.iaload, 1) := by decide +kernel
theorem dX3_about_82 : decode cX3_about 82 = .ok (.ireturn, 1) := by decide +kernel
theorem dX3_about_83 : decode cX3_about 83 = .ok (.aload_n 0, 1) := by decide +kernel
theorem dX3_about_84 : decode cX3_about 84 = .ok (.getfield 32, 3) := by decide +kernel
theorem dX3_about_87 : decode cX3_about 87 = .ok (.iload_n 1, 1) := by decide +kernel
theorem dX3_about_88 : decode cX3_about 88 = .ok (.iaload, 1) := by decide +kernel
theorem dX3_about_89 : decode cX3_about 89 = .ok (.ireturn, 1) := by decide +kernel
theorem dX3_about_90 : decode cX3_about 90 = .ok (.bipush (-2), 2) := by decide +kernel
theorem dX3_about_92 : decode cX3_about 92 = .ok (.ireturn, 1) := by decide +kernel
theorem dX3_at_0 : decode cX3_at 0 = .ok (.aload_n 0, 1) := by decide +kernel
theorem dX3_at_1 : decode cX3_at 1 = .ok (.iconst 0, 1) := by decide +kernel
theorem dX3_at_2 : decode cX3_at 2 = .ok (.putfield 85, 3) := by decide +kernel
theorem dX3_at_5 : decode cX3_at 5 = .ok (.aload_n 0, 1) := by decide +kernel
theorem dX3_at_6 : decode cX3_at 6 = .ok (.iload_n 1, 1) := by decide +kernel
theorem dX3_at_7 : decode cX3_at 7 = .ok (.invokevirtual 97, 3) := by decide +kernel
theorem dX3_at_10 : decode cX3_at 10 = .ok (.ifCond .eq 5, 3) := by decide +kernel
theorem dX3_at_13 : decode cX3_at 13 = .ok (.iconst (-1), 1) := by decide +kernel
theorem dX3_at_14 : decode cX3_at 14 = .ok (.ireturn, 1) := by decide +kernel
theorem dX3_at_15 : decode cX3_at 15 = .ok (.iload_n 2, 1) := by decide +kernel
theorem dX3_at_16 : decode cX3_at 16 = .ok (.i2l, 1) := by decide +kernel
theorem dX3_at_17 : decode cX3_at 17 = .ok (.lconst 0, 1) := by decide +kernel
theorem dX3_at_18 : decode cX3_at 18 = .ok (.ldc2_w 101, 3) := by decide +kernel
theorem dX3_at_21 : decode cX3_at 21 = .ok (.invokestatic 88, 3) := by decide +kernel
theorem dX3_at_24 : decode cX3_at 24 = .ok (.ifCond .eq 16, 3) := by decide +kernel
theorem dX3_at_27 : decode cX3_at 27 = .ok (.aload_n 0, 1) := by decide +kernel
theorem dX3_at_28 : decode cX3_at 28 = .ok (.getfield 17, 3) := by decide +kernel
theorem dX3_at_31 : decode cX3_at 31 = .ok (.iconst 4, 1) := by decide +kernel
theorem dX3_at_32 : decode cX3_at 32 = .ok (.iload_n 1, 1) := by decide +kernel
theorem dX3_at_33 : decode cX3_at 33 = .ok (.imul, 1) := by decide +kernel
theorem dX3_at_34 : decode cX3_at 34 = .ok (.iload_n 2, 1) := by decide +kernel
theorem dX3_at_35 : decode cX3_at 35 = .ok (.iadd, 1) := by decide +kernel
theorem dX3_at_36 : decode cX3_at 36 = .ok (.iaload, 1) := by decide +kernel
theorem dX3_at_37 : decode cX3_at 37 = .ok (.goto 5, 3) := by decide +kernel
theorem dX3_at_40 : decode cX3_at 40 = .ok (.bipush (-2), 2) := by decide +kernel
theorem dX3_at_42 : decode cX3_at 42 = .ok (.ireturn, 1) := by decide +kernel
theorem dX3_keep_0 : decode cX3_keep 0 = .ok (.bipush 16, 2) := by decide +kernel
theorem dX3_keep_2 : decode cX3_keep 2 = .ok (.aload_n 0, 1) := by decide +kernel
theorem dX3_keep_3 : decode cX3_keep 3 = .ok (.getfield 92, 3) := by decide +kernel
theorem dX3_keep_6 : decode cX3_keep 6 = .ok (.imul, 1) := by decide +kernel
theorem dX3_keep_7 : decode cX3_keep 7 = .ok (.iload_n 1, 1) := by decide +kernel
theorem dX3_keep_8 : decode cX3_keep 8 = .ok (.iadd, 1) := by decide +kernel
theorem dX3_keep_9 : decode cX3_keep 9 = .ok (.istore_n 2, 1) := by decide +kernel
theorem dX3_keep_10 : decode cX3_keep 10 = .ok (.iconst 0, 1) := by decide +kernel
theorem dX3_keep_11 : decode cX3_keep 11 = .ok (.istore_n 3, 1) := by decide +kernel
theorem dX3_keep_12 : decode cX3_keep 12 = .ok (.iload_n 3, 1) := by decide +kernel
theorem dX3_keep_13 : decode cX3_keep 13 = .ok (.iconst 4, 1) := by decide +kernel
theorem dX3_keep_14 : decode cX3_keep 14 = .ok (.if_icmp .ge 29, 3) := by decide +kernel
theorem dX3_keep_17 : decode cX3_keep 17 = .ok (.aload_n 0, 1) := by decide +kernel
theorem dX3_keep_18 : decode cX3_keep 18 = .ok (.getfield 35, 3) := by decide +kernel
theorem dX3_keep_21 : decode cX3_keep 21 = .ok (.iconst 4, 1) := by decide +kernel
theorem dX3_keep_22 : decode cX3_keep 22 = .ok (.iload_n 2, 1) := by decide +kernel
theorem dX3_keep_23 : decode cX3_keep 23 = .ok (.imul, 1) := by decide +kernel
theorem dX3_keep_24 : decode cX3_keep 24 = .ok (.iload_n 3, 1) := by decide +kernel
theorem dX3_keep_25 : decode cX3_keep 25 = .ok (.iadd, 1) := by decide +kernel
theorem dX3_keep_26 : decode cX3_keep 26 = .ok (.aload_n 0, 1) := by decide +kernel
theorem dX3_keep_27 : decode cX3_keep 27 = .ok (.getfield 17, 3) := by decide +kernel
theorem dX3_keep_30 : decode cX3_keep 30 = .ok (.iconst 4, 1) := by decide +kernel
theorem dX3_keep_31 : decode cX3_keep 31 = .ok (.iload_n 1, 1) := by decide +kernel
theorem dX3_keep_32 : decode cX3_keep 32 = .ok (.imul, 1) := by decide +kernel
theorem dX3_keep_33 : decode cX3_keep 33 = .ok (.iload_n 3, 1) := by decide +kernel
theorem dX3_keep_34 : decode cX3_keep 34 = .ok (.iadd, 1) := by decide +kernel
theorem dX3_keep_35 : decode cX3_keep 35 = .ok (.iaload, 1) := by decide +kernel
theorem dX3_keep_36 : decode cX3_keep 36 = .ok (.iastore, 1) := by decide +kernel
theorem dX3_keep_37 : decode cX3_keep 37 = .ok (.iinc 3 1, 3) := by decide +kernel
theorem dX3_keep_40 : decode cX3_keep 40 = .ok (.goto (-28), 3) := by decide +kernel
theorem dX3_keep_43 : decode cX3_keep 43 = .ok (.aload_n 0, 1) := by decide +kernel
theorem dX3_keep_44 : decode cX3_keep 44 = .ok (.getfield 38, 3) := by decide +kernel
theorem dX3_keep_47 : decode cX3_keep 47 = .ok (.iload_n 2, 1) := by decide +kernel
theorem dX3_keep_48 : decode cX3_keep 48 = .ok (.aload_n 0, 1) := by decide +kernel
theorem dX3_keep_49 : decode cX3_keep 49 = .ok (.getfield 20, 3) := by decide +kernel
theorem dX3_keep_52 : decode cX3_keep 52 = .ok (.iload_n 1, 1) := by decide +kernel
theorem dX3_keep_53 : decode cX3_keep 53 = .ok (.iaload, 1) := by decide +kernel
theorem dX3_keep_54 : decode cX3_keep 54 = .ok (.iastore, 1) := by decide +kernel
theorem dX3_keep_55 : decode cX3_keep 55 = .ok (.aload_n 0, 1) := by decide +kernel
theorem dX3_keep_56 : decode cX3_keep 56 = .ok (.getfield 41, 3) := by decide +kernel
theorem dX3_keep_59 : decode cX3_keep 59 = .ok (.iload_n 2, 1) := by decide +kernel
theorem dX3_keep_60 : decode cX3_keep 60 = .ok (.aload_n 0, 1) := by decide +kernel
theorem dX3_keep_61 : decode cX3_keep 61 = .ok (.getfield 26, 3) := by decide +kernel
theorem dX3_keep_64 : decode cX3_keep 64 = .ok (.iload_n 1, 1) := by decide +kernel
theorem dX3_keep_65 : decode cX3_keep 65 = .ok (.iaload, 1) := by decide +kernel
theorem dX3_keep_66 : decode cX3_keep 66 = .ok (.iastore, 1) := by decide +kernel
theorem dX3_keep_67 : decode cX3_keep 67 = .ok (.aload_n 0, 1) := by decide +kernel
theorem dX3_keep_68 : decode cX3_keep 68 = .ok (.getfield 44, 3) := by decide +kernel
theorem dX3_keep_71 : decode cX3_keep 71 = .ok (.iload_n 2, 1) := by decide +kernel
theorem dX3_keep_72 : decode cX3_keep 72 = .ok (.aload_n 0, 1) := by decide +kernel
theorem dX3_keep_73 : decode cX3_keep 73 = .ok (.getfield 29, 3) := by decide +kernel
theorem dX3_keep_76 : decode cX3_keep 76 = .ok (.iload_n 1, 1) := by decide +kernel
theorem dX3_keep_77 : decode cX3_keep 77 = .ok (.iaload, 1) := by decide +kernel
theorem dX3_keep_78 : decode cX3_keep 78 = .ok (.iastore, 1) := by decide +kernel
theorem dX3_keep_79 : decode cX3_keep 79 = .ok (.aload_n 0, 1) := by decide +kernel
theorem dX3_keep_80 : decode cX3_keep 80 = .ok (.getfield 47, 3) := by decide +kernel
theorem dX3_keep_83 : decode cX3_keep 83 = .ok (.iload_n 2, 1) := by decide +kernel
theorem dX3_keep_84 : decode cX3_keep 84 = .ok (.aload_n 0, 1) := by decide +kernel
theorem dX3_keep_85 : decode cX3_keep 85 = .ok (.getfield 32, 3) := by decide +kernel
theorem dX3_keep_88 : decode cX3_keep 88 = .ok (.iload_n 1, 1) := by decide +kernel
theorem dX3_keep_89 : decode cX3_keep 89 = .ok (.iaload, 1) := by decide +kernel
theorem dX3_keep_90 : decode cX3_keep 90 = .ok (.iastore, 1) := by decide +kernel
theorem dX3_keep_91 : decode cX3_keep 91 = .ok (.return_, 1) := by decide +kernel
theorem dX3_move_0 : decode cX3_move 0 = .ok (.iconst 0, 1) := by decide +kernel
theorem dX3_move_1 : decode cX3_move 1 = .ok (.istore_n 3, 1) := by decide +kernel
theorem dX3_move_2 : decode cX3_move 2 = .ok (.iload_n 3, 1) := by decide +kernel
theorem dX3_move_3 : decode cX3_move 3 = .ok (.iload_n 2, 1) := by decide +kernel
theorem dX3_move_4 : decode cX3_move 4 = .ok (.if_icmp .ge 86, 3) := by decide +kernel
theorem dX3_move_7 : decode cX3_move 7 = .ok (.iconst 4, 1) := by decide +kernel
theorem dX3_move_8 : decode cX3_move 8 = .ok (.iload_n 1, 1) := by decide +kernel
theorem dX3_move_9 : decode cX3_move 9 = .ok (.imul, 1) := by decide +kernel
theorem dX3_move_10 : decode cX3_move 10 = .ok (.istore 4, 2) := by decide +kernel
theorem dX3_move_12 : decode cX3_move 12 = .ok (.aload_n 0, 1) := by decide +kernel
theorem dX3_move_13 : decode cX3_move 13 = .ok (.getfield 17, 3) := by decide +kernel
theorem dX3_move_16 : decode cX3_move 16 = .ok (.iload 4, 2) := by decide +kernel
theorem dX3_move_18 : decode cX3_move 18 = .ok (.iconst 3, 1) := by decide +kernel
theorem dX3_move_19 : decode cX3_move 19 = .ok (.iadd, 1) := by decide +kernel
theorem dX3_move_20 : decode cX3_move 20 = .ok (.iaload, 1) := by decide +kernel
theorem dX3_move_21 : decode cX3_move 21 = .ok (.istore 5, 2) := by decide +kernel
theorem dX3_move_23 : decode cX3_move 23 = .ok (.aload_n 0, 1) := by decide +kernel
theorem dX3_move_24 : decode cX3_move 24 = .ok (.getfield 17, 3) := by decide +kernel
theorem dX3_move_27 : decode cX3_move 27 = .ok (.iload 4, 2) := by decide +kernel
theorem dX3_move_29 : decode cX3_move 29 = .ok (.iconst 3, 1) := by decide +kernel
theorem dX3_move_30 : decode cX3_move 30 = .ok (.iadd, 1) := by decide +kernel
theorem dX3_move_31 : decode cX3_move 31 = .ok (.aload_n 0, 1) := by decide +kernel
theorem dX3_move_32 : decode cX3_move 32 = .ok (.getfield 17, 3) := by decide +kernel
theorem dX3_move_35 : decode cX3_move 35 = .ok (.iload 4, 2) := by decide +kernel
theorem dX3_move_37 : decode cX3_move 37 = .ok (.iconst 2, 1) := by decide +kernel
theorem dX3_move_38 : decode cX3_move 38 = .ok (.iadd, 1) := by decide +kernel
theorem dX3_move_39 : decode cX3_move 39 = .ok (.iaload, 1) := by decide +kernel
theorem dX3_move_40 : decode cX3_move 40 = .ok (.iastore, 1) := by decide +kernel
theorem dX3_move_41 : decode cX3_move 41 = .ok (.aload_n 0, 1) := by decide +kernel
theorem dX3_move_42 : decode cX3_move 42 = .ok (.getfield 17, 3) := by decide +kernel
theorem dX3_move_45 : decode cX3_move 45 = .ok (.iload 4, 2) := by decide +kernel
theorem dX3_move_47 : decode cX3_move 47 = .ok (.iconst 2, 1) := by decide +kernel
theorem dX3_move_48 : decode cX3_move 48 = .ok (.iadd, 1) := by decide +kernel
theorem dX3_move_49 : decode cX3_move 49 = .ok (.aload_n 0, 1) := by decide +kernel
theorem dX3_move_50 : decode cX3_move 50 = .ok (.getfield 17, 3) := by decide +kernel
theorem dX3_move_53 : decode cX3_move 53 = .ok (.iload 4, 2) := by decide +kernel
theorem dX3_move_55 : decode cX3_move 55 = .ok (.iconst 1, 1) := by decide +kernel
theorem dX3_move_56 : decode cX3_move 56 = .ok (.iadd, 1) := by decide +kernel
theorem dX3_move_57 : decode cX3_move 57 = .ok (.iaload, 1) := by decide +kernel
theorem dX3_move_58 : decode cX3_move 58 = .ok (.iastore, 1) := by decide +kernel
theorem dX3_move_59 : decode cX3_move 59 = .ok (.aload_n 0, 1) := by decide +kernel
theorem dX3_move_60 : decode cX3_move 60 = .ok (.getfield 17, 3) := by decide +kernel
theorem dX3_move_63 : decode cX3_move 63 = .ok (.iload 4, 2) := by decide +kernel
theorem dX3_move_65 : decode cX3_move 65 = .ok (.iconst 1, 1) := by decide +kernel
theorem dX3_move_66 : decode cX3_move 66 = .ok (.iadd, 1) := by decide +kernel
theorem dX3_move_67 : decode cX3_move 67 = .ok (.aload_n 0, 1) := by decide +kernel
theorem dX3_move_68 : decode cX3_move 68 = .ok (.getfield 17, 3) := by decide +kernel
theorem dX3_move_71 : decode cX3_move 71 = .ok (.iload 4, 2) := by decide +kernel
theorem dX3_move_73 : decode cX3_move 73 = .ok (.iaload, 1) := by decide +kernel
theorem dX3_move_74 : decode cX3_move 74 = .ok (.iastore, 1) := by decide +kernel
theorem dX3_move_75 : decode cX3_move 75 = .ok (.aload_n 0, 1) := by decide +kernel
theorem dX3_move_76 : decode cX3_move 76 = .ok (.getfield 17, 3) := by decide +kernel
theorem dX3_move_79 : decode cX3_move 79 = .ok (.iload 4, 2) := by decide +kernel
theorem dX3_move_81 : decode cX3_move 81 = .ok (.iload 5, 2) := by decide +kernel
theorem dX3_move_83 : decode cX3_move 83 = .ok (.iastore, 1) := by decide +kernel
theorem dX3_move_84 : decode cX3_move 84 = .ok (.iinc 3 1, 3) := by decide +kernel
theorem dX3_move_87 : decode cX3_move 87 = .ok (.goto (-85), 3) := by decide +kernel
theorem dX3_move_90 : decode cX3_move 90 = .ok (.return_, 1) := by decide +kernel
theorem dX3_make_0 : decode cX3_make 0 = .ok (.aload_n 0, 1) := by decide +kernel
theorem dX3_make_1 : decode cX3_make 1 = .ok (.iload_n 1, 1) := by decide +kernel
theorem dX3_make_2 : decode cX3_make 2 = .ok (.invokevirtual 105, 3) := by decide +kernel
theorem dX3_make_5 : decode cX3_make 5 = .ok (.bipush 16, 2) := by decide +kernel
theorem dX3_make_7 : decode cX3_make 7 = .ok (.aload_n 0, 1) := by decide +kernel
theorem dX3_make_8 : decode cX3_make 8 = .ok (.getfield 92, 3) := by decide +kernel
theorem dX3_make_11 : decode cX3_make 11 = .ok (.imul, 1) := by decide +kernel
theorem dX3_make_12 : decode cX3_make 12 = .ok (.iload_n 1, 1) := by decide +kernel
theorem dX3_make_13 : decode cX3_make 13 = .ok (.iadd, 1) := by decide +kernel
theorem dX3_make_14 : decode cX3_make 14 = .ok (.istore_n 3, 1) := by decide +kernel
theorem dX3_make_15 : decode cX3_make 15 = .ok (.aload_n 0, 1) := by decide +kernel
theorem dX3_make_16 : decode cX3_make 16 = .ok (.getfield 50, 3) := by decide +kernel
theorem dX3_make_19 : decode cX3_make 19 = .ok (.iload_n 3, 1) := by decide +kernel
theorem dX3_make_20 : decode cX3_make 20 = .ok (.iload_n 2, 1) := by decide +kernel
theorem dX3_make_21 : decode cX3_make 21 = .ok (.iastore, 1) := by decide +kernel
theorem dX3_make_22 : decode cX3_make 22 = .ok (.iload_n 2, 1) := by decide +kernel
theorem dX3_make_23 : decode cX3_make 23 = .ok (.iconst 2, 1) := by decide +kernel
theorem dX3_make_24 : decode cX3_make 24 = .ok (.if_icmp .ne 110, 3) := by decide +kernel
theorem dX3_make_27 : decode cX3_make 27 = .ok (.aload_n 0, 1) := by decide +kernel
theorem dX3_make_28 : decode cX3_make 28 = .ok (.getfield 29, 3) := by decide +kernel
theorem dX3_make_31 : decode cX3_make 31 = .ok (.iload_n 1, 1) := by decide +kernel
theorem dX3_make_32 : decode cX3_make 32 = .ok (.dup2, 1) := by decide +kernel
theorem dX3_make_33 : decode cX3_make 33 = .ok (.iaload, 1) := by decide +kernel
theorem dX3_make_34 : decode cX3_make 34 = .ok (.iconst 1, 1) := by decide +kernel
theorem dX3_make_35 : decode cX3_make 35 = .ok (.iadd, 1) := by decide +kernel
theorem dX3_make_36 : decode cX3_make 36 = .ok (.iastore, 1) := by decide +kernel
theorem dX3_make_37 : decode cX3_make 37 = .ok (.aload_n 0, 1) := by decide +kernel
theorem dX3_make_38 : decode cX3_make 38 = .ok (.getfield 53, 3) := by decide +kernel
theorem dX3_make_41 : decode cX3_make 41 = .ok (.iload_n 3, 1) := by decide +kernel
theorem dX3_make_42 : decode cX3_make 42 = .ok (.aload_n 0, 1) := by decide +kernel
theorem dX3_make_43 : decode cX3_make 43 = .ok (.getfield 92, 3) := by decide +kernel
theorem dX3_make_46 : decode cX3_make 46 = .ok (.ifCond .ne 14, 3) := by decide +kernel
theorem dX3_make_49 : decode cX3_make 49 = .ok (.aload_n 0, 1) := by decide +kernel
theorem dX3_make_50 : decode cX3_make 50 = .ok (.getfield 17, 3) := by decide +kernel
theorem dX3_make_53 : decode cX3_make 53 = .ok (.iconst 4, 1) := by decide +kernel
theorem dX3_make_54 : decode cX3_make 54 = .ok (.iload_n 1, 1) := by decide +kernel
theorem dX3_make_55 : decode cX3_make 55 = .ok (.imul, 1) := by decide +kernel
theorem dX3_make_56 : decode cX3_make 56 = .ok (.iaload, 1) := by decide +kernel
theorem dX3_make_57 : decode cX3_make 57 = .ok (.goto 12, 3) := by decide +kernel
theorem dX3_make_60 : decode cX3_make 60 = .ok (.aload_n 0, 1) := by decide +kernel
theorem dX3_make_61 : decode cX3_make 61 = .ok (.getfield 53, 3) := by decide +kernel
theorem dX3_make_64 : decode cX3_make 64 = .ok (.iload_n 3, 1) := by decide +kernel
theorem dX3_make_65 : decode cX3_make 65 = .ok (.bipush 16, 2) := by decide +kernel
theorem dX3_make_67 : decode cX3_make 67 = .ok (.isub, 1) := by decide +kernel
theorem dX3_make_68 : decode cX3_make 68 = .ok (.iaload, 1) := by decide +kernel
theorem dX3_make_69 : decode cX3_make 69 = .ok (.iastore, 1) := by decide +kernel
theorem dX3_make_70 : decode cX3_make 70 = .ok (.aload_n 0, 1) := by decide +kernel
theorem dX3_make_71 : decode cX3_make 71 = .ok (.getfield 56, 3) := by decide +kernel
theorem dX3_make_74 : decode cX3_make 74 = .ok (.iload_n 3, 1) := by decide +kernel
theorem dX3_make_75 : decode cX3_make 75 = .ok (.aload_n 0, 1) := by decide +kernel
theorem dX3_make_76 : decode cX3_make 76 = .ok (.getfield 92, 3) := by decide +kernel
theorem dX3_make_79 : decode cX3_make 79 = .ok (.ifCond .ne 16, 3) := by decide +kernel
theorem dX3_make_82 : decode cX3_make 82 = .ok (.aload_n 0, 1) := by decide +kernel
theorem dX3_make_83 : decode cX3_make 83 = .ok (.getfield 17, 3) := by decide +kernel
theorem dX3_make_86 : decode cX3_make 86 = .ok (.iconst 4, 1) := by decide +kernel
theorem dX3_make_87 : decode cX3_make 87 = .ok (.iload_n 1, 1) := by decide +kernel
theorem dX3_make_88 : decode cX3_make 88 = .ok (.imul, 1) := by decide +kernel
theorem dX3_make_89 : decode cX3_make 89 = .ok (.iconst 2, 1) := by decide +kernel
theorem dX3_make_90 : decode cX3_make 90 = .ok (.iadd, 1) := by decide +kernel
theorem dX3_make_91 : decode cX3_make 91 = .ok (.iaload, 1) := by decide +kernel
theorem dX3_make_92 : decode cX3_make 92 = .ok (.goto 12, 3) := by decide +kernel
theorem dX3_make_95 : decode cX3_make 95 = .ok (.aload_n 0, 1) := by decide +kernel
theorem dX3_make_96 : decode cX3_make 96 = .ok (.getfield 56, 3) := by decide +kernel
theorem dX3_make_99 : decode cX3_make 99 = .ok (.iload_n 3, 1) := by decide +kernel
theorem dX3_make_100 : decode cX3_make 100 = .ok (.bipush 16, 2) := by decide +kernel
theorem dX3_make_102 : decode cX3_make 102 = .ok (.isub, 1) := by decide +kernel
theorem dX3_make_103 : decode cX3_make 103 = .ok (.iaload, 1) := by decide +kernel
theorem dX3_make_104 : decode cX3_make 104 = .ok (.iastore, 1) := by decide +kernel
theorem dX3_make_105 : decode cX3_make 105 = .ok (.aload_n 0, 1) := by decide +kernel
theorem dX3_make_106 : decode cX3_make 106 = .ok (.getfield 59, 3) := by decide +kernel
theorem dX3_make_109 : decode cX3_make 109 = .ok (.iload_n 3, 1) := by decide +kernel
theorem dX3_make_110 : decode cX3_make 110 = .ok (.aload_n 0, 1) := by decide +kernel
theorem dX3_make_111 : decode cX3_make 111 = .ok (.getfield 92, 3) := by decide +kernel
theorem dX3_make_114 : decode cX3_make 114 = .ok (.ifCond .ne 7, 3) := by decide +kernel
theorem dX3_make_117 : decode cX3_make 117 = .ok (.iconst 0, 1) := by decide +kernel
theorem dX3_make_118 : decode cX3_make 118 = .ok (.goto 12, 3) := by decide +kernel
theorem dX3_make_121 : decode cX3_make 121 = .ok (.aload_n 0, 1) := by decide +kernel
theorem dX3_make_122 : decode cX3_make 122 = .ok (.getfield 59, 3) := by decide +kernel
theorem dX3_make_125 : decode cX3_make 125 = .ok (.iload_n 3, 1) := by decide +kernel
theorem dX3_make_126 : decode cX3_make 126 = .ok (.bipush 16, 2) := by decide +kernel
theorem dX3_make_128 : decode cX3_make 128 = .ok (.isub, 1) := by decide +kernel
theorem dX3_make_129 : decode cX3_make 129 = .ok (.iaload, 1) := by decide +kernel
theorem dX3_make_130 : decode cX3_make 130 = .ok (.iastore, 1) := by decide +kernel
theorem dX3_make_131 : decode cX3_make 131 = .ok (.goto 102, 3) := by decide +kernel
theorem dX3_make_134 : decode cX3_make 134 = .ok (.aload_n 0, 1) := by decide +kernel
theorem dX3_make_135 : decode cX3_make 135 = .ok (.iload_n 1, 1) := by decide +kernel
theorem dX3_make_136 : decode cX3_make 136 = .ok (.iload_n 2, 1) := by decide +kernel
theorem dX3_make_137 : decode cX3_make 137 = .ok (.ifCond .ne 7, 3) := by decide +kernel
theorem dX3_make_140 : decode cX3_make 140 = .ok (.iconst 1, 1) := by decide +kernel
theorem dX3_make_141 : decode cX3_make 141 = .ok (.goto 4, 3) := by decide +kernel
theorem dX3_make_144 : decode cX3_make 144 = .ok (.iconst 3, 1) := by decide +kernel
theorem dX3_make_145 : decode cX3_make 145 = .ok (.invokevirtual 108, 3) := by decide +kernel
theorem dX3_make_148 : decode cX3_make 148 = .ok (.aload_n 0, 1) := by decide +kernel
theorem dX3_make_149 : decode cX3_make 149 = .ok (.getfield 29, 3) := by decide +kernel
theorem dX3_make_152 : decode cX3_make 152 = .ok (.iload_n 1, 1) := by decide +kernel
theorem dX3_make_153 : decode cX3_make 153 = .ok (.iconst 0, 1) := by decide +kernel
theorem dX3_make_154 : decode cX3_make 154 = .ok (.iastore, 1) := by decide +kernel
theorem dX3_make_155 : decode cX3_make 155 = .ok (.aload_n 0, 1) := by decide +kernel
theorem dX3_make_156 : decode cX3_make 156 = .ok (.getfield 59, 3) := by decide +kernel
theorem dX3_make_159 : decode cX3_make 159 = .ok (.iload_n 3, 1) := by decide +kernel
theorem dX3_make_160 : decode cX3_make 160 = .ok (.iload_n 2, 1) := by decide +kernel
theorem dX3_make_161 : decode cX3_make 161 = .ok (.aload_n 0, 1) := by decide +kernel
theorem dX3_make_162 : decode cX3_make 162 = .ok (.getfield 20, 3) := by decide +kernel
theorem dX3_make_165 : decode cX3_make 165 = .ok (.iload_n 1, 1) := by decide +kernel
theorem dX3_make_166 : decode cX3_make 166 = .ok (.iaload, 1) := by decide +kernel
theorem dX3_make_167 : decode cX3_make 167 = .ok (.if_icmp .ne 7, 3) := by decide +kernel
theorem dX3_make_170 : decode cX3_make 170 = .ok (.iconst 0, 1) := by decide +kernel
theorem dX3_make_171 : decode cX3_make 171 = .ok (.goto 4, 3) := by decide +kernel
theorem dX3_make_174 : decode cX3_make 174 = .ok (.iconst 1, 1) := by decide +kernel
theorem dX3_make_175 : decode cX3_make 175 = .ok (.iastore, 1) := by decide +kernel
theorem dX3_make_176 : decode cX3_make 176 = .ok (.aload_n 0, 1) := by decide +kernel
theorem dX3_make_177 : decode cX3_make 177 = .ok (.getfield 26, 3) := by decide +kernel
theorem dX3_make_180 : decode cX3_make 180 = .ok (.iload_n 1, 1) := by decide +kernel
theorem dX3_make_181 : decode cX3_make 181 = .ok (.dup2, 1) := by decide +kernel
theorem dX3_make_182 : decode cX3_make 182 = .ok (.iaload, 1) := by decide +kernel
theorem dX3_make_183 : decode cX3_make 183 = .ok (.aload_n 0, 1) := by decide +kernel
theorem dX3_make_184 : decode cX3_make 184 = .ok (.getfield 59, 3) := by decide +kernel
theorem dX3_make_187 : decode cX3_make 187 = .ok (.iload_n 3, 1) := by decide +kernel
theorem dX3_make_188 : decode cX3_make 188 = .ok (.iaload, 1) := by decide +kernel
theorem dX3_make_189 : decode cX3_make 189 = .ok (.ifCond .ne 7, 3) := by decide +kernel
theorem dX3_make_192 : decode cX3_make 192 = .ok (.iconst 1, 1) := by decide +kernel
theorem dX3_make_193 : decode cX3_make 193 = .ok (.goto 4, 3) := by decide +kernel
theorem dX3_make_196 : decode cX3_make 196 = .ok (.iconst (-1), 1) := by decide +kernel
theorem dX3_make_197 : decode cX3_make 197 = .ok (.iadd, 1) := by decide +kernel
theorem dX3_make_198 : decode cX3_make 198 = .ok (.iastore, 1) := by decide +kernel
theorem dX3_make_199 : decode cX3_make 199 = .ok (.aload_n 0, 1) := by decide +kernel
theorem dX3_make_200 : decode cX3_make 200 = .ok (.getfield 53, 3) := by decide +kernel
theorem dX3_make_203 : decode cX3_make 203 = .ok (.iload_n 3, 1) := by decide +kernel
theorem dX3_make_204 : decode cX3_make 204 = .ok (.aload_n 0, 1) := by decide +kernel
theorem dX3_make_205 : decode cX3_make 205 = .ok (.getfield 17, 3) := by decide +kernel
theorem dX3_make_208 : decode cX3_make 208 = .ok (.iconst 4, 1) := by decide +kernel
theorem dX3_make_209 : decode cX3_make 209 = .ok (.iload_n 1, 1) := by decide +kernel
theorem dX3_make_210 : decode cX3_make 210 = .ok (.imul, 1) := by decide +kernel
theorem dX3_make_211 : decode cX3_make 211 = .ok (.iload_n 2, 1) := by decide +kernel
theorem dX3_make_212 : decode cX3_make 212 = .ok (.iadd, 1) := by decide +kernel
theorem dX3_make_213 : decode cX3_make 213 = .ok (.iaload, 1) := by decide +kernel
theorem dX3_make_214 : decode cX3_make 214 = .ok (.iastore, 1) := by decide +kernel
theorem dX3_make_215 : decode cX3_make 215 = .ok (.aload_n 0, 1) := by decide +kernel
theorem dX3_make_216 : decode cX3_make 216 = .ok (.getfield 56, 3) := by decide +kernel
theorem dX3_make_219 : decode cX3_make 219 = .ok (.iload_n 3, 1) := by decide +kernel
theorem dX3_make_220 : decode cX3_make 220 = .ok (.aload_n 0, 1) := by decide +kernel
theorem dX3_make_221 : decode cX3_make 221 = .ok (.getfield 17, 3) := by decide +kernel
theorem dX3_make_224 : decode cX3_make 224 = .ok (.iconst 4, 1) := by decide +kernel
theorem dX3_make_225 : decode cX3_make 225 = .ok (.iload_n 1, 1) := by decide +kernel
theorem dX3_make_226 : decode cX3_make 226 = .ok (.imul, 1) := by decide +kernel
theorem dX3_make_227 : decode cX3_make 227 = .ok (.iload_n 2, 1) := by decide +kernel
theorem dX3_make_228 : decode cX3_make 228 = .ok (.iadd, 1) := by decide +kernel
theorem dX3_make_229 : decode cX3_make 229 = .ok (.iconst 2, 1) := by decide +kernel
theorem dX3_make_230 : decode cX3_make 230 = .ok (.iadd, 1) := by decide +kernel
theorem dX3_make_231 : decode cX3_make 231 = .ok (.iaload, 1) := by decide +kernel
theorem dX3_make_232 : decode cX3_make 232 = .ok (.iastore, 1) := by decide +kernel
theorem dX3_make_233 : decode cX3_make 233 = .ok (.return_, 1) := by decide +kernel
theorem dX3_pick_0 : decode cX3_pick 0 = .ok (.aload_n 0, 1) := by decide +kernel
theorem dX3_pick_1 : decode cX3_pick 1 = .ok (.iconst 0, 1) := by decide +kernel
theorem dX3_pick_2 : decode cX3_pick 2 = .ok (.putfield 85, 3) := by decide +kernel
theorem dX3_pick_5 : decode cX3_pick 5 = .ok (.iload_n 1, 1) := by decide +kernel
theorem dX3_pick_6 : decode cX3_pick 6 = .ok (.i2l, 1) := by decide +kernel
theorem dX3_pick_7 : decode cX3_pick 7 = .ok (.lconst 0, 1) := by decide +kernel
theorem dX3_pick_8 : decode cX3_pick 8 = .ok (.iconst 1, 1) := by decide +kernel
theorem dX3_pick_9 : decode cX3_pick 9 = .ok (.aload_n 0, 1) := by decide +kernel
theorem dX3_pick_10 : decode cX3_pick 10 = .ok (.getfield 7, 3) := by decide +kernel
theorem dX3_pick_13 : decode cX3_pick 13 = .ok (.ishl, 1) := by decide +kernel
theorem dX3_pick_14 : decode cX3_pick 14 = .ok (.iconst 1, 1) := by decide +kernel
theorem dX3_pick_15 : decode cX3_pick 15 = .ok (.isub, 1) := by decide +kernel
theorem dX3_pick_16 : decode cX3_pick 16 = .ok (.i2l, 1) := by decide +kernel
theorem dX3_pick_17 : decode cX3_pick 17 = .ok (.invokestatic 88, 3) := by decide +kernel
theorem dX3_pick_20 : decode cX3_pick 20 = .ok (.ifCond .eq 27, 3) := by decide +kernel
theorem dX3_pick_23 : decode cX3_pick 23 = .ok (.iload_n 2, 1) := by decide +kernel
theorem dX3_pick_24 : decode cX3_pick 24 = .ok (.i2l, 1) := by decide +kernel
theorem dX3_pick_25 : decode cX3_pick 25 = .ok (.lconst 0, 1) := by decide +kernel
theorem dX3_pick_26 : decode cX3_pick 26 = .ok (.iconst 1, 1) := by decide +kernel
theorem dX3_pick_27 : decode cX3_pick 27 = .ok (.aload_n 0, 1) := by decide +kernel
theorem dX3_pick_28 : decode cX3_pick 28 = .ok (.getfield 7, 3) := by decide +kernel
theorem dX3_pick_31 : decode cX3_pick 31 = .ok (.ishl, 1) := by decide +kernel
theorem dX3_pick_32 : decode cX3_pick 32 = .ok (.iconst 1, 1) := by decide +kernel
theorem dX3_pick_33 : decode cX3_pick 33 = .ok (.isub, 1) := by decide +kernel
theorem dX3_pick_34 : decode cX3_pick 34 = .ok (.i2l, 1) := by decide +kernel
theorem dX3_pick_35 : decode cX3_pick 35 = .ok (.invokestatic 88, 3) := by decide +kernel
theorem dX3_pick_38 : decode cX3_pick 38 = .ok (.ifCond .eq 9, 3) := by decide +kernel
theorem dX3_pick_41 : decode cX3_pick 41 = .ok (.iload_n 1, 1) := by decide +kernel
theorem dX3_pick_42 : decode cX3_pick 42 = .ok (.iload_n 2, 1) := by decide +kernel
theorem dX3_pick_43 : decode cX3_pick 43 = .ok (.iand, 1) := by decide +kernel
theorem dX3_pick_44 : decode cX3_pick 44 = .ok (.ifCond .eq 6, 3) := by decide +kernel
theorem dX3_pick_47 : decode cX3_pick 47 = .ok (.bipush (-2), 2) := by decide +kernel
theorem dX3_pick_49 : decode cX3_pick 49 = .ok (.ireturn, 1) := by decide +kernel
theorem dX3_pick_50 : decode cX3_pick 50 = .ok (.aload_n 0, 1) := by decide +kernel
theorem dX3_pick_51 : decode cX3_pick 51 = .ok (.getfield 92, 3) := by decide +kernel
theorem dX3_pick_54 : decode cX3_pick 54 = .ok (.bipush 60, 2) := by decide +kernel
theorem dX3_pick_56 : decode cX3_pick 56 = .ok (.if_icmp .ne 6, 3) := by decide +kernel
theorem dX3_pick_59 : decode cX3_pick 59 = .ok (.bipush (-4), 2) := by decide +kernel
theorem dX3_pick_61 : decode cX3_pick 61 = .ok (.ireturn, 1) := by decide +kernel
theorem dX3_pick_62 : decode cX3_pick 62 = .ok (.iconst 0, 1) := by decide +kernel
theorem dX3_pick_63 : decode cX3_pick 63 = .ok (.istore_n 3, 1) := by decide +kernel
theorem dX3_pick_64 : decode cX3_pick 64 = .ok (.iload_n 3, 1) := by decide +kernel
theorem dX3_pick_65 : decode cX3_pick 65 = .ok (.aload_n 0, 1) := by decide +kernel
theorem dX3_pick_66 : decode cX3_pick 66 = .ok (.getfield 7, 3) := by decide +kernel
theorem dX3_pick_69 : decode cX3_pick 69 = .ok (.if_icmp .ge 41, 3) := by decide +kernel
theorem dX3_pick_72 : decode cX3_pick 72 = .ok (.aload_n 0, 1) := by decide +kernel
theorem dX3_pick_73 : decode cX3_pick 73 = .ok (.iload_n 3, 1) := by decide +kernel
theorem dX3_pick_74 : decode cX3_pick 74 = .ok (.iload_n 1, 1) := by decide +kernel
theorem dX3_pick_75 : decode cX3_pick 75 = .ok (.iload_n 3, 1) := by decide +kernel
theorem dX3_pick_76 : decode cX3_pick 76 = .ok (.ishr, 1) := by decide +kernel
theorem dX3_pick_77 : decode cX3_pick 77 = .ok (.iconst 1, 1) := by decide +kernel
theorem dX3_pick_78 : decode cX3_pick 78 = .ok (.iand, 1) := by decide +kernel
theorem dX3_pick_79 : decode cX3_pick 79 = .ok (.iconst 1, 1) := by decide +kernel
theorem dX3_pick_80 : decode cX3_pick 80 = .ok (.if_icmp .ne 7, 3) := by decide +kernel
theorem dX3_pick_83 : decode cX3_pick 83 = .ok (.iconst 0, 1) := by decide +kernel
theorem dX3_pick_84 : decode cX3_pick 84 = .ok (.goto 17, 3) := by decide +kernel
theorem dX3_pick_87 : decode cX3_pick 87 = .ok (.iload_n 2, 1) := by decide +kernel
theorem dX3_pick_88 : decode cX3_pick 88 = .ok (.iload_n 3, 1) := by decide +kernel
theorem dX3_pick_89 : decode cX3_pick 89 = .ok (.ishr, 1) := by decide +kernel
theorem dX3_pick_90 : decode cX3_pick 90 = .ok (.iconst 1, 1) := by decide +kernel
theorem dX3_pick_91 : decode cX3_pick 91 = .ok (.iand, 1) := by decide +kernel
theorem dX3_pick_92 : decode cX3_pick 92 = .ok (.iconst 1, 1) := by decide +kernel
theorem dX3_pick_93 : decode cX3_pick 93 = .ok (.if_icmp .ne 7, 3) := by decide +kernel
theorem dX3_pick_96 : decode cX3_pick 96 = .ok (.iconst 1, 1) := by decide +kernel
theorem dX3_pick_97 : decode cX3_pick 97 = .ok (.goto 4, 3) := by decide +kernel
theorem dX3_pick_100 : decode cX3_pick 100 = .ok (.iconst 2, 1) := by decide +kernel
theorem dX3_pick_101 : decode cX3_pick 101 = .ok (.invokevirtual 112, 3) := by decide +kernel
theorem dX3_pick_104 : decode cX3_pick 104 = .ok (.iinc 3 1, 3) := by decide +kernel
theorem dX3_pick_107 : decode cX3_pick 107 = .ok (.goto (-43), 3) := by decide +kernel
theorem dX3_pick_110 : decode cX3_pick 110 = .ok (.aload_n 0, 1) := by decide +kernel
theorem dX3_pick_111 : decode cX3_pick 111 = .ok (.dup, 1) := by decide +kernel
theorem dX3_pick_112 : decode cX3_pick 112 = .ok (.getfield 92, 3) := by decide +kernel
theorem dX3_pick_115 : decode cX3_pick 115 = .ok (.iconst 1, 1) := by decide +kernel
theorem dX3_pick_116 : decode cX3_pick 116 = .ok (.iadd, 1) := by decide +kernel
theorem dX3_pick_117 : decode cX3_pick 117 = .ok (.putfield 92, 3) := by decide +kernel
theorem dX3_pick_120 : decode cX3_pick 120 = .ok (.aload_n 0, 1) := by decide +kernel
theorem dX3_pick_121 : decode cX3_pick 121 = .ok (.getfield 92, 3) := by decide +kernel
theorem dX3_pick_124 : decode cX3_pick 124 = .ok (.ireturn, 1) := by decide +kernel
theorem dX3_packs_0 : decode cX3_packs 0 = .ok (.aload_n 0, 1) := by decide +kernel
theorem dX3_packs_1 : decode cX3_packs 1 = .ok (.iconst 0, 1) := by decide +kernel
theorem dX3_packs_2 : decode cX3_packs 2 = .ok (.putfield 85, 3) := by decide +kernel
theorem dX3_packs_5 : decode cX3_packs 5 = .ok (.iload_n 1, 1) := by decide +kernel
theorem dX3_packs_6 : decode cX3_packs 6 = .ok (.i2l, 1) := by decide +kernel
theorem dX3_packs_7 : decode cX3_packs 7 = .ok (.lconst 0, 1) := by decide +kernel
theorem dX3_packs_8 : decode cX3_packs 8 = .ok (.ldc2_w 115, 3) := by decide +kernel
theorem dX3_packs_11 : decode cX3_packs 11 = .ok (.invokestatic 88, 3) := by decide +kernel
theorem dX3_packs_14 : decode cX3_packs 14 = .ok (.ifCond .eq 40, 3) := by decide +kernel
theorem dX3_packs_17 : decode cX3_packs 17 = .ok (.iload_n 2, 1) := by decide +kernel
theorem dX3_packs_18 : decode cX3_packs 18 = .ok (.i2l, 1) := by decide +kernel
theorem dX3_packs_19 : decode cX3_packs 19 = .ok (.lconst 0, 1) := by decide +kernel
theorem dX3_packs_20 : decode cX3_packs 20 = .ok (.ldc2_w 115, 3) := by decide +kernel
theorem dX3_packs_23 : decode cX3_packs 23 = .ok (.invokestatic 88, 3) := by decide +kernel
theorem dX3_packs_26 : decode cX3_packs 26 = .ok (.ifCond .eq 28, 3) := by decide +kernel
theorem dX3_packs_29 : decode cX3_packs 29 = .ok (.iload_n 3, 1) := by decide +kernel
theorem dX3_packs_30 : decode cX3_packs 30 = .ok (.i2l, 1) := by decide +kernel
theorem dX3_packs_31 : decode cX3_packs 31 = .ok (.lconst 0, 1) := by decide +kernel
theorem dX3_packs_32 : decode cX3_packs 32 = .ok (.ldc2_w 115, 3) := by decide +kernel
theorem dX3_packs_35 : decode cX3_packs 35 = .ok (.invokestatic 88, 3) := by decide +kernel
theorem dX3_packs_38 : decode cX3_packs 38 = .ok (.ifCond .eq 16, 3) := by decide +kernel
theorem dX3_packs_41 : decode cX3_packs 41 = .ok (.iload 4, 2) := by decide +kernel
theorem dX3_packs_43 : decode cX3_packs 43 = .ok (.i2l, 1) := by decide +kernel
theorem dX3_packs_44 : decode cX3_packs 44 = .ok (.lconst 0, 1) := by decide +kernel
theorem dX3_packs_45 : decode cX3_packs 45 = .ok (.ldc2_w 115, 3) := by decide +kernel
theorem dX3_packs_48 : decode cX3_packs 48 = .ok (.invokestatic 88, 3) := by decide +kernel
theorem dX3_packs_51 : decode cX3_packs 51 = .ok (.ifCond .ne 6, 3) := by decide +kernel
theorem dX3_packs_54 : decode cX3_packs 54 = .ok (.bipush (-2), 2) := by decide +kernel
theorem dX3_packs_56 : decode cX3_packs 56 = .ok (.ireturn, 1) := by decide +kernel
theorem dX3_packs_57 : decode cX3_packs 57 = .ok (.aload_n 0, 1) := by decide +kernel
theorem dX3_packs_58 : decode cX3_packs 58 = .ok (.getfield 92, 3) := by decide +kernel
theorem dX3_packs_61 : decode cX3_packs 61 = .ok (.bipush 60, 2) := by decide +kernel
theorem dX3_packs_63 : decode cX3_packs 63 = .ok (.if_icmp .ne 6, 3) := by decide +kernel
theorem dX3_packs_66 : decode cX3_packs 66 = .ok (.bipush (-4), 2) := by decide +kernel
theorem dX3_packs_68 : decode cX3_packs 68 = .ok (.ireturn, 1) := by decide +kernel
theorem dX3_packs_69 : decode cX3_packs 69 = .ok (.iconst 0, 1) := by decide +kernel
theorem dX3_packs_70 : decode cX3_packs 70 = .ok (.istore 5, 2) := by decide +kernel
theorem dX3_packs_72 : decode cX3_packs 72 = .ok (.iload 5, 2) := by decide +kernel
theorem dX3_packs_74 : decode cX3_packs 74 = .ok (.aload_n 0, 1) := by decide +kernel
theorem dX3_packs_75 : decode cX3_packs 75 = .ok (.getfield 7, 3) := by decide +kernel
theorem dX3_packs_78 : decode cX3_packs 78 = .ok (.if_icmp .ge 61, 3) := by decide +kernel
theorem dX3_packs_81 : decode cX3_packs 81 = .ok (.aload_n 0, 1) := by decide +kernel
theorem dX3_packs_82 : decode cX3_packs 82 = .ok (.iload 5, 2) := by decide +kernel
theorem dX3_packs_84 : decode cX3_packs 84 = .ok (.aload_n 0, 1) := by decide +kernel
theorem dX3_packs_85 : decode cX3_packs 85 = .ok (.getfield 23, 3) := by decide +kernel
theorem dX3_packs_88 : decode cX3_packs 88 = .ok (.iload 5, 2) := by decide +kernel
theorem dX3_packs_90 : decode cX3_packs 90 = .ok (.iaload, 1) := by decide +kernel
theorem dX3_packs_91 : decode cX3_packs 91 = .ok (.ifCond .ne 7, 3) := by decide +kernel
theorem dX3_packs_94 : decode cX3_packs 94 = .ok (.iload_n 1, 1) := by decide +kernel
theorem dX3_packs_95 : decode cX3_packs 95 = .ok (.goto 35, 3) := by decide +kernel
theorem dX3_packs_98 : decode cX3_packs 98 = .ok (.aload_n 0, 1) := by decide +kernel
theorem dX3_packs_99 : decode cX3_packs 99 = .ok (.getfield 23, 3) := by decide +kernel
theorem dX3_packs_102 : decode cX3_packs 102 = .ok (.iload 5, 2) := by decide +kernel
theorem dX3_packs_104 : decode cX3_packs 104 = .ok (.iaload, 1) := by decide +kernel
theorem dX3_packs_105 : decode cX3_packs 105 = .ok (.iconst 1, 1) := by decide +kernel
theorem dX3_packs_106 : decode cX3_packs 106 = .ok (.if_icmp .ne 7, 3) := by decide +kernel
theorem dX3_packs_109 : decode cX3_packs 109 = .ok (.iload_n 2, 1) := by decide +kernel
theorem dX3_packs_110 : decode cX3_packs 110 = .ok (.goto 20, 3) := by decide +kernel
theorem dX3_packs_113 : decode cX3_packs 113 = .ok (.aload_n 0, 1) := by decide +kernel
theorem dX3_packs_114 : decode cX3_packs 114 = .ok (.getfield 23, 3) := by decide +kernel
theorem dX3_packs_117 : decode cX3_packs 117 = .ok (.iload 5, 2) := by decide +kernel
theorem dX3_packs_119 : decode cX3_packs 119 = .ok (.iaload, 1) := by decide +kernel
theorem dX3_packs_120 : decode cX3_packs 120 = .ok (.iconst 2, 1) := by decide +kernel
theorem dX3_packs_121 : decode cX3_packs 121 = .ok (.if_icmp .ne 7, 3) := by decide +kernel
theorem dX3_packs_124 : decode cX3_packs 124 = .ok (.iload_n 3, 1) := by decide +kernel
theorem dX3_packs_125 : decode cX3_packs 125 = .ok (.goto 5, 3) := by decide +kernel
theorem dX3_packs_128 : decode cX3_packs 128 = .ok (.iload 4, 2) := by decide +kernel
theorem dX3_packs_130 : decode cX3_packs 130 = .ok (.invokevirtual 112, 3) := by decide +kernel
theorem dX3_packs_133 : decode cX3_packs 133 = .ok (.iinc 5 1, 3) := by decide +kernel
theorem dX3_packs_136 : decode cX3_packs 136 = .ok (.goto (-64), 3) := by decide +kernel
theorem dX3_packs_139 : decode cX3_packs 139 = .ok (.aload_n 0, 1) := by decide +kernel
theorem dX3_packs_140 : decode cX3_packs 140 = .ok (.dup, 1) := by decide +kernel
theorem dX3_packs_141 : decode cX3_packs 141 = .ok (.getfield 92, 3) := by decide +kernel
theorem dX3_packs_144 : decode cX3_packs 144 = .ok (.iconst 1, 1) := by decide +kernel
theorem dX3_packs_145 : decode cX3_packs 145 = .ok (.iadd, 1) := by decide +kernel
theorem dX3_packs_146 : decode cX3_packs 146 = .ok (.putfield 92, 3) := by decide +kernel
theorem dX3_packs_149 : decode cX3_packs 149 = .ok (.aload_n 0, 1) := by decide +kernel
theorem dX3_packs_150 : decode cX3_packs 150 = .ok (.getfield 92, 3) := by decide +kernel
theorem dX3_packs_153 : decode cX3_packs 153 = .ok (.ireturn, 1) := by decide +kernel
theorem dX3_unweave_0 : decode cX3_unweave 0 = .ok (.aload_n 0, 1) := by decide +kernel
theorem dX3_unweave_1 : decode cX3_unweave 1 = .ok (.iconst 0, 1) := by decide +kernel
theorem dX3_unweave_2 : decode cX3_unweave 2 = .ok (.putfield 85, 3) := by decide +kernel
theorem dX3_unweave_5 : decode cX3_unweave 5 = .ok (.aload_n 0, 1) := by decide +kernel
theorem dX3_unweave_6 : decode cX3_unweave 6 = .ok (.getfield 92, 3) := by decide +kernel
theorem dX3_unweave_9 : decode cX3_unweave 9 = .ok (.ifCond .ne 6, 3) := by decide +kernel
theorem dX3_unweave_12 : decode cX3_unweave 12 = .ok (.bipush (-3), 2) := by decide +kernel
theorem dX3_unweave_14 : decode cX3_unweave 14 = .ok (.ireturn, 1) := by decide +kernel
theorem dX3_unweave_15 : decode cX3_unweave 15 = .ok (.aload_n 0, 1) := by decide +kernel
theorem dX3_unweave_16 : decode cX3_unweave 16 = .ok (.dup, 1) := by decide +kernel
theorem dX3_unweave_17 : decode cX3_unweave 17 = .ok (.getfield 92, 3) := by decide +kernel
theorem dX3_unweave_20 : decode cX3_unweave 20 = .ok (.iconst 1, 1) := by decide +kernel
theorem dX3_unweave_21 : decode cX3_unweave 21 = .ok (.isub, 1) := by decide +kernel
theorem dX3_unweave_22 : decode cX3_unweave 22 = .ok (.putfield 92, 3) := by decide +kernel
theorem dX3_unweave_25 : decode cX3_unweave 25 = .ok (.iconst 0, 1) := by decide +kernel
theorem dX3_unweave_26 : decode cX3_unweave 26 = .ok (.istore_n 1, 1) := by decide +kernel
theorem dX3_unweave_27 : decode cX3_unweave 27 = .ok (.iload_n 1, 1) := by decide +kernel
theorem dX3_unweave_28 : decode cX3_unweave 28 = .ok (.aload_n 0, 1) := by decide +kernel
theorem dX3_unweave_29 : decode cX3_unweave 29 = .ok (.getfield 7, 3) := by decide +kernel
theorem dX3_unweave_32 : decode cX3_unweave 32 = .ok (.if_icmp .ge 100, 3) := by decide +kernel
theorem dX3_unweave_35 : decode cX3_unweave 35 = .ok (.bipush 16, 2) := by decide +kernel
theorem dX3_unweave_37 : decode cX3_unweave 37 = .ok (.aload_n 0, 1) := by decide +kernel
theorem dX3_unweave_38 : decode cX3_unweave 38 = .ok (.getfield 92, 3) := by decide +kernel
theorem dX3_unweave_41 : decode cX3_unweave 41 = .ok (.imul, 1) := by decide +kernel
theorem dX3_unweave_42 : decode cX3_unweave 42 = .ok (.iload_n 1, 1) := by decide +kernel
theorem dX3_unweave_43 : decode cX3_unweave 43 = .ok (.iadd, 1) := by decide +kernel
theorem dX3_unweave_44 : decode cX3_unweave 44 = .ok (.istore_n 2, 1) := by decide +kernel
theorem dX3_unweave_45 : decode cX3_unweave 45 = .ok (.iconst 0, 1) := by decide +kernel
theorem dX3_unweave_46 : decode cX3_unweave 46 = .ok (.istore_n 3, 1) := by decide +kernel
theorem dX3_unweave_47 : decode cX3_unweave 47 = .ok (.iload_n 3, 1) := by decide +kernel
theorem dX3_unweave_48 : decode cX3_unweave 48 = .ok (.iconst 4, 1) := by decide +kernel
theorem dX3_unweave_49 : decode cX3_unweave 49 = .ok (.if_icmp .ge 29, 3) := by decide +kernel
theorem dX3_unweave_52 : decode cX3_unweave 52 = .ok (.aload_n 0, 1) := by decide +kernel
theorem dX3_unweave_53 : decode cX3_unweave 53 = .ok (.getfield 17, 3) := by decide +kernel
theorem dX3_unweave_56 : decode cX3_unweave 56 = .ok (.iconst 4, 1) := by decide +kernel
theorem dX3_unweave_57 : decode cX3_unweave 57 = .ok (.iload_n 1, 1) := by decide +kernel
theorem dX3_unweave_58 : decode cX3_unweave 58 = .ok (.imul, 1) := by decide +kernel
theorem dX3_unweave_59 : decode cX3_unweave 59 = .ok (.iload_n 3, 1) := by decide +kernel
theorem dX3_unweave_60 : decode cX3_unweave 60 = .ok (.iadd, 1) := by decide +kernel
theorem dX3_unweave_61 : decode cX3_unweave 61 = .ok (.aload_n 0, 1) := by decide +kernel
theorem dX3_unweave_62 : decode cX3_unweave 62 = .ok (.getfield 35, 3) := by decide +kernel
theorem dX3_unweave_65 : decode cX3_unweave 65 = .ok (.iconst 4, 1) := by decide +kernel
theorem dX3_unweave_66 : decode cX3_unweave 66 = .ok (.iload_n 2, 1) := by decide +kernel
theorem dX3_unweave_67 : decode cX3_unweave 67 = .ok (.imul, 1) := by decide +kernel
theorem dX3_unweave_68 : decode cX3_unweave 68 = .ok (.iload_n 3, 1) := by decide +kernel
theorem dX3_unweave_69 : decode cX3_unweave 69 = .ok (.iadd, 1) := by decide +kernel
theorem dX3_unweave_70 : decode cX3_unweave 70 = .ok (.iaload, 1) := by decide +kernel
theorem dX3_unweave_71 : decode cX3_unweave 71 = .ok (.iastore, 1) := by decide +kernel
theorem dX3_unweave_72 : decode cX3_unweave 72 = .ok (.iinc 3 1, 3) := by decide +kernel
theorem dX3_unweave_75 : decode cX3_unweave 75 = .ok (.goto (-28), 3) := by decide +kernel
theorem dX3_unweave_78 : decode cX3_unweave 78 = .ok (.aload_n 0, 1) := by decide +kernel
theorem dX3_unweave_79 : decode cX3_unweave 79 = .ok (.getfield 20, 3) := by decide +kernel
theorem dX3_unweave_82 : decode cX3_unweave 82 = .ok (.iload_n 1, 1) := by decide +kernel
theorem dX3_unweave_83 : decode cX3_unweave 83 = .ok (.aload_n 0, 1) := by decide +kernel
theorem dX3_unweave_84 : decode cX3_unweave 84 = .ok (.getfield 38, 3) := by decide +kernel
theorem dX3_unweave_87 : decode cX3_unweave 87 = .ok (.iload_n 2, 1) := by decide +kernel
theorem dX3_unweave_88 : decode cX3_unweave 88 = .ok (.iaload, 1) := by decide +kernel
theorem dX3_unweave_89 : decode cX3_unweave 89 = .ok (.iastore, 1) := by decide +kernel
theorem dX3_unweave_90 : decode cX3_unweave 90 = .ok (.aload_n 0, 1) := by decide +kernel
theorem dX3_unweave_91 : decode cX3_unweave 91 = .ok (.getfield 26, 3) := by decide +kernel
theorem dX3_unweave_94 : decode cX3_unweave 94 = .ok (.iload_n 1, 1) := by decide +kernel
theorem dX3_unweave_95 : decode cX3_unweave 95 = .ok (.aload_n 0, 1) := by decide +kernel
theorem dX3_unweave_96 : decode cX3_unweave 96 = .ok (.getfield 41, 3) := by decide +kernel
theorem dX3_unweave_99 : decode cX3_unweave 99 = .ok (.iload_n 2, 1) := by decide +kernel
theorem dX3_unweave_100 : decode cX3_unweave 100 = .ok (.iaload, 1) := by decide +kernel
theorem dX3_unweave_101 : decode cX3_unweave 101 = .ok (.iastore, 1) := by decide +kernel
theorem dX3_unweave_102 : decode cX3_unweave 102 = .ok (.aload_n 0, 1) := by decide +kernel
theorem dX3_unweave_103 : decode cX3_unweave 103 = .ok (.getfield 29, 3) := by decide +kernel
theorem dX3_unweave_106 : decode cX3_unweave 106 = .ok (.iload_n 1, 1) := by decide +kernel
theorem dX3_unweave_107 : decode cX3_unweave 107 = .ok (.aload_n 0, 1) := by decide +kernel
theorem dX3_unweave_108 : decode cX3_unweave 108 = .ok (.getfield 44, 3) := by decide +kernel
theorem dX3_unweave_111 : decode cX3_unweave 111 = .ok (.iload_n 2, 1) := by decide +kernel
theorem dX3_unweave_112 : decode cX3_unweave 112 = .ok (.iaload, 1) := by decide +kernel
theorem dX3_unweave_113 : decode cX3_unweave 113 = .ok (.iastore, 1) := by decide +kernel
theorem dX3_unweave_114 : decode cX3_unweave 114 = .ok (.aload_n 0, 1) := by decide +kernel
theorem dX3_unweave_115 : decode cX3_unweave 115 = .ok (.getfield 32, 3) := by decide +kernel
theorem dX3_unweave_118 : decode cX3_unweave 118 = .ok (.iload_n 1, 1) := by decide +kernel
theorem dX3_unweave_119 : decode cX3_unweave 119 = .ok (.aload_n 0, 1) := by decide +kernel
theorem dX3_unweave_120 : decode cX3_unweave 120 = .ok (.getfield 47, 3) := by decide +kernel
theorem dX3_unweave_123 : decode cX3_unweave 123 = .ok (.iload_n 2, 1) := by decide +kernel
theorem dX3_unweave_124 : decode cX3_unweave 124 = .ok (.iaload, 1) := by decide +kernel
theorem dX3_unweave_125 : decode cX3_unweave 125 = .ok (.iastore, 1) := by decide +kernel
theorem dX3_unweave_126 : decode cX3_unweave 126 = .ok (.iinc 1 1, 3) := by decide +kernel
theorem dX3_unweave_129 : decode cX3_unweave 129 = .ok (.goto (-102), 3) := by decide +kernel
theorem dX3_unweave_132 : decode cX3_unweave 132 = .ok (.aload_n 0, 1) := by decide +kernel
theorem dX3_unweave_133 : decode cX3_unweave 133 = .ok (.getfield 92, 3) := by decide +kernel
theorem dX3_unweave_136 : decode cX3_unweave 136 = .ok (.ireturn, 1) := by decide +kernel
theorem dX3_turn_0 : decode cX3_turn 0 = .ok (.aload_n 0, 1) := by decide +kernel
theorem dX3_turn_1 : decode cX3_turn 1 = .ok (.iconst 0, 1) := by decide +kernel
theorem dX3_turn_2 : decode cX3_turn 2 = .ok (.putfield 85, 3) := by decide +kernel
theorem dX3_turn_5 : decode cX3_turn 5 = .ok (.aload_n 0, 1) := by decide +kernel
theorem dX3_turn_6 : decode cX3_turn 6 = .ok (.iload_n 1, 1) := by decide +kernel
theorem dX3_turn_7 : decode cX3_turn 7 = .ok (.invokevirtual 117, 3) := by decide +kernel
theorem dX3_turn_10 : decode cX3_turn 10 = .ok (.ifCond .ne 11, 3) := by decide +kernel
theorem dX3_turn_13 : decode cX3_turn 13 = .ok (.aload_n 0, 1) := by decide +kernel
theorem dX3_turn_14 : decode cX3_turn 14 = .ok (.iload_n 2, 1) := by decide +kernel
theorem dX3_turn_15 : decode cX3_turn 15 = .ok (.invokevirtual 97, 3) := by decide +kernel
theorem dX3_turn_18 : decode cX3_turn 18 = .ok (.ifCond .eq 7, 3) := by decide +kernel
theorem dX3_turn_21 : decode cX3_turn 21 = .ok (.iconst (-1), 1) := by decide +kernel
theorem dX3_turn_22 : decode cX3_turn 22 = .ok (.goto 14, 3) := by decide +kernel
theorem dX3_turn_25 : decode cX3_turn 25 = .ok (.aload_n 0, 1) := by decide +kernel
theorem dX3_turn_26 : decode cX3_turn 26 = .ok (.getfield 50, 3) := by decide +kernel
theorem dX3_turn_29 : decode cX3_turn 29 = .ok (.bipush 16, 2) := by decide +kernel
theorem dX3_turn_31 : decode cX3_turn 31 = .ok (.iload_n 1, 1) := by decide +kernel
theorem dX3_turn_32 : decode cX3_turn 32 = .ok (.imul, 1) := by decide +kernel
theorem dX3_turn_33 : decode cX3_turn 33 = .ok (.iload_n 2, 1) := by decide +kernel
theorem dX3_turn_34 : decode cX3_turn 34 = .ok (.iadd, 1) := by decide +kernel
theorem dX3_turn_35 : decode cX3_turn 35 = .ok (.iaload, 1) := by decide +kernel
theorem dX3_turn_36 : decode cX3_turn 36 = .ok (.ireturn, 1) := by decide +kernel
theorem dX3_colourOf_0 : decode cX3_colourOf 0 = .ok (.aload_n 0, 1) := by decide +kernel
theorem dX3_colourOf_1 : decode cX3_colourOf 1 = .ok (.getfield 13, 3) := by decide +kernel
theorem dX3_colourOf_4 : decode cX3_colourOf 4 = .ok (.iconst 4, 1) := by decide +kernel
theorem dX3_colourOf_5 : decode cX3_colourOf 5 = .ok (.iload_n 2, 1) := by decide +kernel
theorem dX3_colourOf_6 : decode cX3_colourOf 6 = .ok (.imul, 1) := by decide +kernel
theorem dX3_colourOf_7 : decode cX3_colourOf 7 = .ok (.aload_n 0, 1) := by decide +kernel
theorem dX3_colourOf_8 : decode cX3_colourOf 8 = .ok (.getfield 53, 3) := by decide +kernel
theorem dX3_colourOf_11 : decode cX3_colourOf 11 = .ok (.bipush 16, 2) := by decide +kernel
theorem dX3_colourOf_13 : decode cX3_colourOf 13 = .ok (.iload_n 1, 1) := by decide +kernel
theorem dX3_colourOf_14 : decode cX3_colourOf 14 = .ok (.imul, 1) := by decide +kernel
theorem dX3_colourOf_15 : decode cX3_colourOf 15 = .ok (.iload_n 2, 1) := by decide +kernel
theorem dX3_colourOf_16 : decode cX3_colourOf 16 = .ok (.iadd, 1) := by decide +kernel
theorem dX3_colourOf_17 : decode cX3_colourOf 17 = .ok (.iaload, 1) := by decide +kernel
theorem dX3_colourOf_18 : decode cX3_colourOf 18 = .ok (.iadd, 1) := by decide +kernel
theorem dX3_colourOf_19 : decode cX3_colourOf 19 = .ok (.iaload, 1) := by decide +kernel
theorem dX3_colourOf_20 : decode cX3_colourOf 20 = .ok (.ireturn, 1) := by decide +kernel
theorem dX3_behindOf_0 : decode cX3_behindOf 0 = .ok (.aload_n 0, 1) := by decide +kernel
theorem dX3_behindOf_1 : decode cX3_behindOf 1 = .ok (.getfield 13, 3) := by decide +kernel
theorem dX3_behindOf_4 : decode cX3_behindOf 4 = .ok (.iconst 4, 1) := by decide +kernel
theorem dX3_behindOf_5 : decode cX3_behindOf 5 = .ok (.iload_n 2, 1) := by decide +kernel
theorem dX3_behindOf_6 : decode cX3_behindOf 6 = .ok (.imul, 1) := by decide +kernel
theorem dX3_behindOf_7 : decode cX3_behindOf 7 = .ok (.aload_n 0, 1) := by decide +kernel
theorem dX3_behindOf_8 : decode cX3_behindOf 8 = .ok (.getfield 56, 3) := by decide +kernel
theorem dX3_behindOf_11 : decode cX3_behindOf 11 = .ok (.bipush 16, 2) := by decide +kernel
theorem dX3_behindOf_13 : decode cX3_behindOf 13 = .ok (.iload_n 1, 1) := by decide +kernel
theorem dX3_behindOf_14 : decode cX3_behindOf 14 = .ok (.imul, 1) := by decide +kernel
theorem dX3_behindOf_15 : decode cX3_behindOf 15 = .ok (.iload_n 2, 1) := by decide +kernel
theorem dX3_behindOf_16 : decode cX3_behindOf 16 = .ok (.iadd, 1) := by decide +kernel
theorem dX3_behindOf_17 : decode cX3_behindOf 17 = .ok (.iaload, 1) := by decide +kernel
theorem dX3_behindOf_18 : decode cX3_behindOf 18 = .ok (.iadd, 1) := by decide +kernel
theorem dX3_behindOf_19 : decode cX3_behindOf 19 = .ok (.iaload, 1) := by decide +kernel
theorem dX3_behindOf_20 : decode cX3_behindOf 20 = .ok (.ireturn, 1) := by decide +kernel
theorem dX3_shows_0 : decode cX3_shows 0 = .ok (.aload_n 0, 1) := by decide +kernel
theorem dX3_shows_1 : decode cX3_shows 1 = .ok (.iconst 0, 1) := by decide +kernel
theorem dX3_shows_2 : decode cX3_shows 2 = .ok (.putfield 85, 3) := by decide +kernel
theorem dX3_shows_5 : decode cX3_shows 5 = .ok (.aload_n 0, 1) := by decide +kernel
theorem dX3_shows_6 : decode cX3_shows 6 = .ok (.iload_n 1, 1) := by decide +kernel
theorem dX3_shows_7 : decode cX3_shows 7 = .ok (.invokevirtual 117, 3) := by decide +kernel
theorem dX3_shows_10 : decode cX3_shows 10 = .ok (.ifCond .ne 11, 3) := by decide +kernel
theorem dX3_shows_13 : decode cX3_shows 13 = .ok (.aload_n 0, 1) := by decide +kernel
theorem dX3_shows_14 : decode cX3_shows 14 = .ok (.iload_n 2, 1) := by decide +kernel
theorem dX3_shows_15 : decode cX3_shows 15 = .ok (.invokevirtual 97, 3) := by decide +kernel
theorem dX3_shows_18 : decode cX3_shows 18 = .ok (.ifCond .eq 7, 3) := by decide +kernel
theorem dX3_shows_21 : decode cX3_shows 21 = .ok (.iconst (-1), 1) := by decide +kernel
theorem dX3_shows_22 : decode cX3_shows 22 = .ok (.goto 22, 3) := by decide +kernel
theorem dX3_shows_25 : decode cX3_shows 25 = .ok (.iload_n 3, 1) := by decide +kernel
theorem dX3_shows_26 : decode cX3_shows 26 = .ok (.ifCond .eq 12, 3) := by decide +kernel
theorem dX3_shows_29 : decode cX3_shows 29 = .ok (.aload_n 0, 1) := by decide +kernel
theorem dX3_shows_30 : decode cX3_shows 30 = .ok (.iload_n 1, 1) := by decide +kernel
theorem dX3_shows_31 : decode cX3_shows 31 = .ok (.iload_n 2, 1) := by decide +kernel
theorem dX3_shows_32 : decode cX3_shows 32 = .ok (.invokevirtual 120, 3) := by decide +kernel
theorem dX3_shows_35 : decode cX3_shows 35 = .ok (.goto 9, 3) := by decide +kernel
theorem dX3_shows_38 : decode cX3_shows 38 = .ok (.aload_n 0, 1) := by decide +kernel
theorem dX3_shows_39 : decode cX3_shows 39 = .ok (.iload_n 1, 1) := by decide +kernel
theorem dX3_shows_40 : decode cX3_shows 40 = .ok (.iload_n 2, 1) := by decide +kernel
theorem dX3_shows_41 : decode cX3_shows 41 = .ok (.invokevirtual 124, 3) := by decide +kernel
theorem dX3_shows_44 : decode cX3_shows 44 = .ok (.ireturn, 1) := by decide +kernel
theorem dX3_shown_0 : decode cX3_shown 0 = .ok (.aload_n 0, 1) := by decide +kernel
theorem dX3_shown_1 : decode cX3_shown 1 = .ok (.iconst 0, 1) := by decide +kernel
theorem dX3_shown_2 : decode cX3_shown 2 = .ok (.putfield 85, 3) := by decide +kernel
theorem dX3_shown_5 : decode cX3_shown 5 = .ok (.aload_n 0, 1) := by decide +kernel
theorem dX3_shown_6 : decode cX3_shown 6 = .ok (.iload_n 1, 1) := by decide +kernel
theorem dX3_shown_7 : decode cX3_shown 7 = .ok (.invokevirtual 117, 3) := by decide +kernel
theorem dX3_shown_10 : decode cX3_shown 10 = .ok (.ifCond .ne 11, 3) := by decide +kernel
theorem dX3_shown_13 : decode cX3_shown 13 = .ok (.aload_n 0, 1) := by decide +kernel
theorem dX3_shown_14 : decode cX3_shown 14 = .ok (.iload_n 2, 1) := by decide +kernel
theorem dX3_shown_15 : decode cX3_shown 15 = .ok (.invokevirtual 97, 3) := by decide +kernel
theorem dX3_shown_18 : decode cX3_shown 18 = .ok (.ifCond .eq 7, 3) := by decide +kernel
theorem dX3_shown_21 : decode cX3_shown 21 = .ok (.iconst (-1), 1) := by decide +kernel
theorem dX3_shown_22 : decode cX3_shown 22 = .ok (.goto 32, 3) := by decide +kernel
theorem dX3_shown_25 : decode cX3_shown 25 = .ok (.iload_n 3, 1) := by decide +kernel
theorem dX3_shown_26 : decode cX3_shown 26 = .ok (.ifCond .eq 17, 3) := by decide +kernel
theorem dX3_shown_29 : decode cX3_shown 29 = .ok (.aload_n 0, 1) := by decide +kernel
theorem dX3_shown_30 : decode cX3_shown 30 = .ok (.getfield 56, 3) := by decide +kernel
theorem dX3_shown_33 : decode cX3_shown 33 = .ok (.bipush 16, 2) := by decide +kernel
theorem dX3_shown_35 : decode cX3_shown 35 = .ok (.iload_n 1, 1) := by decide +kernel
theorem dX3_shown_36 : decode cX3_shown 36 = .ok (.imul, 1) := by decide +kernel
theorem dX3_shown_37 : decode cX3_shown 37 = .ok (.iload_n 2, 1) := by decide +kernel
theorem dX3_shown_38 : decode cX3_shown 38 = .ok (.iadd, 1) := by decide +kernel
theorem dX3_shown_39 : decode cX3_shown 39 = .ok (.iaload, 1) := by decide +kernel
theorem dX3_shown_40 : decode cX3_shown 40 = .ok (.goto 14, 3) := by decide +kernel
theorem dX3_shown_43 : decode cX3_shown 43 = .ok (.aload_n 0, 1) := by decide +kernel
theorem dX3_shown_44 : decode cX3_shown 44 = .ok (.getfield 53, 3) := by decide +kernel
theorem dX3_shown_47 : decode cX3_shown 47 = .ok (.bipush 16, 2) := by decide +kernel
theorem dX3_shown_49 : decode cX3_shown 49 = .ok (.iload_n 1, 1) := by decide +kernel
theorem dX3_shown_50 : decode cX3_shown 50 = .ok (.imul, 1) := by decide +kernel
theorem dX3_shown_51 : decode cX3_shown 51 = .ok (.iload_n 2, 1) := by decide +kernel
theorem dX3_shown_52 : decode cX3_shown 52 = .ok (.iadd, 1) := by decide +kernel
theorem dX3_shown_53 : decode cX3_shown 53 = .ok (.iaload, 1) := by decide +kernel
theorem dX3_shown_54 : decode cX3_shown 54 = .ok (.ireturn, 1) := by decide +kernel
theorem dX3_slant_0 : decode cX3_slant 0 = .ok (.aload_n 0, 1) := by decide +kernel
theorem dX3_slant_1 : decode cX3_slant 1 = .ok (.iconst 0, 1) := by decide +kernel
theorem dX3_slant_2 : decode cX3_slant 2 = .ok (.putfield 85, 3) := by decide +kernel
theorem dX3_slant_5 : decode cX3_slant 5 = .ok (.aload_n 0, 1) := by decide +kernel
theorem dX3_slant_6 : decode cX3_slant 6 = .ok (.iload_n 1, 1) := by decide +kernel
theorem dX3_slant_7 : decode cX3_slant 7 = .ok (.invokevirtual 117, 3) := by decide +kernel
theorem dX3_slant_10 : decode cX3_slant 10 = .ok (.ifCond .ne 11, 3) := by decide +kernel
theorem dX3_slant_13 : decode cX3_slant 13 = .ok (.aload_n 0, 1) := by decide +kernel
theorem dX3_slant_14 : decode cX3_slant 14 = .ok (.iload_n 2, 1) := by decide +kernel
theorem dX3_slant_15 : decode cX3_slant 15 = .ok (.invokevirtual 97, 3) := by decide +kernel
theorem dX3_slant_18 : decode cX3_slant 18 = .ok (.ifCond .eq 7, 3) := by decide +kernel
theorem dX3_slant_21 : decode cX3_slant 21 = .ok (.iconst (-1), 1) := by decide +kernel
theorem dX3_slant_22 : decode cX3_slant 22 = .ok (.goto 14, 3) := by decide +kernel
theorem dX3_slant_25 : decode cX3_slant 25 = .ok (.aload_n 0, 1) := by decide +kernel
theorem dX3_slant_26 : decode cX3_slant 26 = .ok (.getfield 59, 3) := by decide +kernel
theorem dX3_slant_29 : decode cX3_slant 29 = .ok (.bipush 16, 2) := by decide +kernel
theorem dX3_slant_31 : decode cX3_slant 31 = .ok (.iload_n 1, 1) := by decide +kernel
theorem dX3_slant_32 : decode cX3_slant 32 = .ok (.imul, 1) := by decide +kernel
theorem dX3_slant_33 : decode cX3_slant 33 = .ok (.iload_n 2, 1) := by decide +kernel
theorem dX3_slant_34 : decode cX3_slant 34 = .ok (.iadd, 1) := by decide +kernel
theorem dX3_slant_35 : decode cX3_slant 35 = .ok (.iaload, 1) := by decide +kernel
theorem dX3_slant_36 : decode cX3_slant 36 = .ok (.ireturn, 1) := by decide +kernel
theorem dX3_longest_0 : decode cX3_longest 0 = .ok (.aload_n 0, 1) := by decide +kernel
theorem dX3_longest_1 : decode cX3_longest 1 = .ok (.iconst 0, 1) := by decide +kernel
theorem dX3_longest_2 : decode cX3_longest 2 = .ok (.putfield 85, 3) := by decide +kernel
theorem dX3_longest_5 : decode cX3_longest 5 = .ok (.aload_n 0, 1) := by decide +kernel
theorem dX3_longest_6 : decode cX3_longest 6 = .ok (.iload_n 1, 1) := by decide +kernel
theorem dX3_longest_7 : decode cX3_longest 7 = .ok (.invokevirtual 97, 3) := by decide +kernel
theorem dX3_longest_10 : decode cX3_longest 10 = .ok (.ifCond .eq 5, 3) := by decide +kernel
theorem dX3_longest_13 : decode cX3_longest 13 = .ok (.iconst (-1), 1) := by decide +kernel
theorem dX3_longest_14 : decode cX3_longest 14 = .ok (.ireturn, 1) := by decide +kernel
theorem dX3_longest_15 : decode cX3_longest 15 = .ok (.iconst 0, 1) := by decide +kernel
theorem dX3_longest_16 : decode cX3_longest 16 = .ok (.istore_n 2, 1) := by decide +kernel
theorem dX3_longest_17 : decode cX3_longest 17 = .ok (.iconst 0, 1) := by decide +kernel
theorem dX3_longest_18 : decode cX3_longest 18 = .ok (.istore_n 3, 1) := by decide +kernel
theorem dX3_longest_19 : decode cX3_longest 19 = .ok (.iconst 0, 1) := by decide +kernel
theorem dX3_longest_20 : decode cX3_longest 20 = .ok (.istore 4, 2) := by decide +kernel
theorem dX3_longest_22 : decode cX3_longest 22 = .ok (.iload 4, 2) := by decide +kernel
theorem dX3_longest_24 : decode cX3_longest 24 = .ok (.aload_n 0, 1) := by decide +kernel
theorem dX3_longest_25 : decode cX3_longest 25 = .ok (.getfield 92, 3) := by decide +kernel
theorem dX3_longest_28 : decode cX3_longest 28 = .ok (.if_icmp .ge 44, 3) := by decide +kernel
theorem dX3_longest_31 : decode cX3_longest 31 = .ok (.aload_n 0, 1) := by decide +kernel
theorem dX3_longest_32 : decode cX3_longest 32 = .ok (.getfield 50, 3) := by decide +kernel
theorem dX3_longest_35 : decode cX3_longest 35 = .ok (.bipush 16, 2) := by decide +kernel
theorem dX3_longest_37 : decode cX3_longest 37 = .ok (.iload 4, 2) := by decide +kernel
theorem dX3_longest_39 : decode cX3_longest 39 = .ok (.imul, 1) := by decide +kernel
theorem dX3_longest_40 : decode cX3_longest 40 = .ok (.iload_n 1, 1) := by decide +kernel
theorem dX3_longest_41 : decode cX3_longest 41 = .ok (.iadd, 1) := by decide +kernel
theorem dX3_longest_42 : decode cX3_longest 42 = .ok (.iaload, 1) := by decide +kernel
theorem dX3_longest_43 : decode cX3_longest 43 = .ok (.iconst 2, 1) := by decide +kernel
theorem dX3_longest_44 : decode cX3_longest 44 = .ok (.if_icmp .ne 9, 3) := by decide +kernel
theorem dX3_longest_47 : decode cX3_longest 47 = .ok (.iload_n 3, 1) := by decide +kernel
theorem dX3_longest_48 : decode cX3_longest 48 = .ok (.iconst 1, 1) := by decide +kernel
theorem dX3_longest_49 : decode cX3_longest 49 = .ok (.iadd, 1) := by decide +kernel
theorem dX3_longest_50 : decode cX3_longest 50 = .ok (.goto 4, 3) := by decide +kernel
theorem dX3_longest_53 : decode cX3_longest 53 = .ok (.iconst 0, 1) := by decide +kernel
theorem dX3_longest_54 : decode cX3_longest 54 = .ok (.istore_n 3, 1) := by decide +kernel
theorem dX3_longest_55 : decode cX3_longest 55 = .ok (.iload_n 3, 1) := by decide +kernel
theorem dX3_longest_56 : decode cX3_longest 56 = .ok (.iload_n 2, 1) := by decide +kernel
theorem dX3_longest_57 : decode cX3_longest 57 = .ok (.if_icmp .le 7, 3) := by decide +kernel
theorem dX3_longest_60 : decode cX3_longest 60 = .ok (.iload_n 3, 1) := by decide +kernel
theorem dX3_longest_61 : decode cX3_longest 61 = .ok (.goto 4, 3) := by decide +kernel
theorem dX3_longest_64 : decode cX3_longest 64 = .ok (.iload_n 2, 1) := by decide +kernel
theorem dX3_longest_65 : decode cX3_longest 65 = .ok (.istore_n 2, 1) := by decide +kernel
theorem dX3_longest_66 : decode cX3_longest 66 = .ok (.iinc 4 1, 3) := by decide +kernel
theorem dX3_longest_69 : decode cX3_longest 69 = .ok (.goto (-47), 3) := by decide +kernel
theorem dX3_longest_72 : decode cX3_longest 72 = .ok (.iload_n 2, 1) := by decide +kernel
theorem dX3_longest_73 : decode cX3_longest 73 = .ok (.ireturn, 1) := by decide +kernel
theorem dX3_many_0 : decode cX3_many 0 = .ok (.aload_n 0, 1) := by decide +kernel
theorem dX3_many_1 : decode cX3_many 1 = .ok (.iconst 0, 1) := by decide +kernel
theorem dX3_many_2 : decode cX3_many 2 = .ok (.putfield 85, 3) := by decide +kernel
theorem dX3_many_5 : decode cX3_many 5 = .ok (.aload_n 0, 1) := by decide +kernel
theorem dX3_many_6 : decode cX3_many 6 = .ok (.iload_n 1, 1) := by decide +kernel
theorem dX3_many_7 : decode cX3_many 7 = .ok (.invokevirtual 117, 3) := by decide +kernel
theorem dX3_many_10 : decode cX3_many 10 = .ok (.ifCond .eq 5, 3) := by decide +kernel
theorem dX3_many_13 : decode cX3_many 13 = .ok (.iconst (-1), 1) := by decide +kernel
theorem dX3_many_14 : decode cX3_many 14 = .ok (.ireturn, 1) := by decide +kernel
theorem dX3_many_15 : decode cX3_many 15 = .ok (.iload_n 2, 1) := by decide +kernel
theorem dX3_many_16 : decode cX3_many 16 = .ok (.i2l, 1) := by decide +kernel
theorem dX3_many_17 : decode cX3_many 17 = .ok (.lconst 0, 1) := by decide +kernel
theorem dX3_many_18 : decode cX3_many 18 = .ok (.ldc2_w 103, 3) := by decide +kernel
theorem dX3_many_21 : decode cX3_many 21 = .ok (.invokestatic 88, 3) := by decide +kernel
theorem dX3_many_24 : decode cX3_many 24 = .ok (.ifCond .ne 6, 3) := by decide +kernel
theorem dX3_many_27 : decode cX3_many 27 = .ok (.bipush (-2), 2) := by decide +kernel
theorem dX3_many_29 : decode cX3_many 29 = .ok (.ireturn, 1) := by decide +kernel
theorem dX3_many_30 : decode cX3_many 30 = .ok (.iconst 0, 1) := by decide +kernel
theorem dX3_many_31 : decode cX3_many 31 = .ok (.istore_n 3, 1) := by decide +kernel
theorem dX3_many_32 : decode cX3_many 32 = .ok (.iconst 0, 1) := by decide +kernel
theorem dX3_many_33 : decode cX3_many 33 = .ok (.istore 4, 2) := by decide +kernel
theorem dX3_many_35 : decode cX3_many 35 = .ok (.iload 4, 2) := by decide +kernel
theorem dX3_many_37 : decode cX3_many 37 = .ok (.aload_n 0, 1) := by decide +kernel
theorem dX3_many_38 : decode cX3_many 38 = .ok (.getfield 7, 3) := by decide +kernel
theorem dX3_many_41 : decode cX3_many 41 = .ok (.if_icmp .ge 28, 3) := by decide +kernel
theorem dX3_many_44 : decode cX3_many 44 = .ok (.iload_n 3, 1) := by decide +kernel
theorem dX3_many_45 : decode cX3_many 45 = .ok (.aload_n 0, 1) := by decide +kernel
theorem dX3_many_46 : decode cX3_many 46 = .ok (.iload_n 1, 1) := by decide +kernel
theorem dX3_many_47 : decode cX3_many 47 = .ok (.iload 4, 2) := by decide +kernel
theorem dX3_many_49 : decode cX3_many 49 = .ok (.invokevirtual 124, 3) := by decide +kernel
theorem dX3_many_52 : decode cX3_many 52 = .ok (.iload_n 2, 1) := by decide +kernel
theorem dX3_many_53 : decode cX3_many 53 = .ok (.if_icmp .ne 7, 3) := by decide +kernel
theorem dX3_many_56 : decode cX3_many 56 = .ok (.iconst 1, 1) := by decide +kernel
theorem dX3_many_57 : decode cX3_many 57 = .ok (.goto 4, 3) := by decide +kernel
theorem dX3_many_60 : decode cX3_many 60 = .ok (.iconst 0, 1) := by decide +kernel
theorem dX3_many_61 : decode cX3_many 61 = .ok (.iadd, 1) := by decide +kernel
theorem dX3_many_62 : decode cX3_many 62 = .ok (.istore_n 3, 1) := by decide +kernel
theorem dX3_many_63 : decode cX3_many 63 = .ok (.iinc 4 1, 3) := by decide +kernel
theorem dX3_many_66 : decode cX3_many 66 = .ok (.goto (-31), 3) := by decide +kernel
theorem dX3_many_69 : decode cX3_many 69 = .ok (.iload_n 3, 1) := by decide +kernel
theorem dX3_many_70 : decode cX3_many 70 = .ok (.ireturn, 1) := by decide +kernel
theorem dX3_isLike_0 : decode cX3_isLike 0 = .ok (.iconst 1, 1) := by decide +kernel
theorem dX3_isLike_1 : decode cX3_isLike 1 = .ok (.istore_n 3, 1) := by decide +kernel
theorem dX3_isLike_2 : decode cX3_isLike 2 = .ok (.iconst 0, 1) := by decide +kernel
theorem dX3_isLike_3 : decode cX3_isLike 3 = .ok (.istore 4, 2) := by decide +kernel
theorem dX3_isLike_5 : decode cX3_isLike 5 = .ok (.iload 4, 2) := by decide +kernel
theorem dX3_isLike_7 : decode cX3_isLike 7 = .ok (.aload_n 0, 1) := by decide +kernel
theorem dX3_isLike_8 : decode cX3_isLike 8 = .ok (.getfield 7, 3) := by decide +kernel
theorem dX3_isLike_11 : decode cX3_isLike 11 = .ok (.if_icmp .ge 36, 3) := by decide +kernel
theorem dX3_isLike_14 : decode cX3_isLike 14 = .ok (.iload_n 3, 1) := by decide +kernel
theorem dX3_isLike_15 : decode cX3_isLike 15 = .ok (.ifCond .eq 24, 3) := by decide +kernel
theorem dX3_isLike_18 : decode cX3_isLike 18 = .ok (.aload_n 0, 1) := by decide +kernel
theorem dX3_isLike_19 : decode cX3_isLike 19 = .ok (.iload_n 1, 1) := by decide +kernel
theorem dX3_isLike_20 : decode cX3_isLike 20 = .ok (.iload 4, 2) := by decide +kernel
theorem dX3_isLike_22 : decode cX3_isLike 22 = .ok (.invokevirtual 124, 3) := by decide +kernel
theorem dX3_isLike_25 : decode cX3_isLike 25 = .ok (.aload_n 0, 1) := by decide +kernel
theorem dX3_isLike_26 : decode cX3_isLike 26 = .ok (.iload_n 2, 1) := by decide +kernel
theorem dX3_isLike_27 : decode cX3_isLike 27 = .ok (.iload 4, 2) := by decide +kernel
theorem dX3_isLike_29 : decode cX3_isLike 29 = .ok (.invokevirtual 124, 3) := by decide +kernel
theorem dX3_isLike_32 : decode cX3_isLike 32 = .ok (.if_icmp .ne 7, 3) := by decide +kernel
theorem dX3_isLike_35 : decode cX3_isLike 35 = .ok (.iconst 1, 1) := by decide +kernel
theorem dX3_isLike_36 : decode cX3_isLike 36 = .ok (.goto 4, 3) := by decide +kernel
theorem dX3_isLike_39 : decode cX3_isLike 39 = .ok (.iconst 0, 1) := by decide +kernel
theorem dX3_isLike_40 : decode cX3_isLike 40 = .ok (.istore_n 3, 1) := by decide +kernel
theorem dX3_isLike_41 : decode cX3_isLike 41 = .ok (.iinc 4 1, 3) := by decide +kernel
theorem dX3_isLike_44 : decode cX3_isLike 44 = .ok (.goto (-39), 3) := by decide +kernel
theorem dX3_isLike_47 : decode cX3_isLike 47 = .ok (.iload_n 3, 1) := by decide +kernel
theorem dX3_isLike_48 : decode cX3_isLike 48 = .ok (.ireturn, 1) := by decide +kernel
theorem dX3_repeat_0 : decode cX3_repeat 0 = .ok (.aload_n 0, 1) := by decide +kernel
theorem dX3_repeat_1 : decode cX3_repeat 1 = .ok (.iconst 0, 1) := by decide +kernel
theorem dX3_repeat_2 : decode cX3_repeat 2 = .ok (.putfield 85, 3) := by decide +kernel
theorem dX3_repeat_5 : decode cX3_repeat 5 = .ok (.iconst 1, 1) := by decide +kernel
theorem dX3_repeat_6 : decode cX3_repeat 6 = .ok (.istore_n 1, 1) := by decide +kernel
theorem dX3_repeat_7 : decode cX3_repeat 7 = .ok (.iload_n 1, 1) := by decide +kernel
theorem dX3_repeat_8 : decode cX3_repeat 8 = .ok (.aload_n 0, 1) := by decide +kernel
theorem dX3_repeat_9 : decode cX3_repeat 9 = .ok (.getfield 92, 3) := by decide +kernel
theorem dX3_repeat_12 : decode cX3_repeat 12 = .ok (.if_icmp .gt 54, 3) := by decide +kernel
theorem dX3_repeat_15 : decode cX3_repeat 15 = .ok (.iconst 1, 1) := by decide +kernel
theorem dX3_repeat_16 : decode cX3_repeat 16 = .ok (.istore_n 2, 1) := by decide +kernel
theorem dX3_repeat_17 : decode cX3_repeat 17 = .ok (.iload_n 1, 1) := by decide +kernel
theorem dX3_repeat_18 : decode cX3_repeat 18 = .ok (.istore_n 3, 1) := by decide +kernel
theorem dX3_repeat_19 : decode cX3_repeat 19 = .ok (.iload_n 3, 1) := by decide +kernel
theorem dX3_repeat_20 : decode cX3_repeat 20 = .ok (.aload_n 0, 1) := by decide +kernel
theorem dX3_repeat_21 : decode cX3_repeat 21 = .ok (.getfield 92, 3) := by decide +kernel
theorem dX3_repeat_24 : decode cX3_repeat 24 = .ok (.if_icmp .ge 30, 3) := by decide +kernel
theorem dX3_repeat_27 : decode cX3_repeat 27 = .ok (.iload_n 2, 1) := by decide +kernel
theorem dX3_repeat_28 : decode cX3_repeat 28 = .ok (.ifCond .eq 18, 3) := by decide +kernel
theorem dX3_repeat_31 : decode cX3_repeat 31 = .ok (.aload_n 0, 1) := by decide +kernel
theorem dX3_repeat_32 : decode cX3_repeat 32 = .ok (.iload_n 3, 1) := by decide +kernel
theorem dX3_repeat_33 : decode cX3_repeat 33 = .ok (.iload_n 3, 1) := by decide +kernel
theorem dX3_repeat_34 : decode cX3_repeat 34 = .ok (.iload_n 1, 1) := by decide +kernel
theorem dX3_repeat_35 : decode cX3_repeat 35 = .ok (.isub, 1) := by decide +kernel
theorem dX3_repeat_36 : decode cX3_repeat 36 = .ok (.invokevirtual 127, 3) := by decide +kernel
theorem dX3_repeat_39 : decode cX3_repeat 39 = .ok (.ifCond .eq 7, 3) := by decide +kernel
theorem dX3_repeat_42 : decode cX3_repeat 42 = .ok (.iconst 1, 1) := by decide +kernel
theorem dX3_repeat_43 : decode cX3_repeat 43 = .ok (.goto 4, 3) := by decide +kernel
theorem dX3_repeat_46 : decode cX3_repeat 46 = .ok (.iconst 0, 1) := by decide +kernel
theorem dX3_repeat_47 : decode cX3_repeat 47 = .ok (.istore_n 2, 1) := by decide +kernel
theorem dX3_repeat_48 : decode cX3_repeat 48 = .ok (.iinc 3 1, 3) := by decide +kernel
theorem dX3_repeat_51 : decode cX3_repeat 51 = .ok (.goto (-32), 3) := by decide +kernel
theorem dX3_repeat_54 : decode cX3_repeat 54 = .ok (.iload_n 2, 1) := by decide +kernel
theorem dX3_repeat_55 : decode cX3_repeat 55 = .ok (.ifCond .eq 5, 3) := by decide +kernel
theorem dX3_repeat_58 : decode cX3_repeat 58 = .ok (.iload_n 1, 1) := by decide +kernel
theorem dX3_repeat_59 : decode cX3_repeat 59 = .ok (.ireturn, 1) := by decide +kernel
theorem dX3_repeat_60 : decode cX3_repeat 60 = .ok (.iinc 1 1, 3) := by decide +kernel
theorem dX3_repeat_63 : decode cX3_repeat 63 = .ok (.goto (-56), 3) := by decide +kernel
theorem dX3_repeat_66 : decode cX3_repeat 66 = .ok (.iconst 0, 1) := by decide +kernel
theorem dX3_repeat_67 : decode cX3_repeat 67 = .ok (.ireturn, 1) := by decide +kernel
theorem dX3_is_0 : decode cX3_is 0 = .ok (.aload_n 0, 1) := by decide +kernel
theorem dX3_is_1 : decode cX3_is 1 = .ok (.iconst 0, 1) := by decide +kernel
theorem dX3_is_2 : decode cX3_is 2 = .ok (.putfield 85, 3) := by decide +kernel
theorem dX3_is_5 : decode cX3_is 5 = .ok (.iload_n 1, 1) := by decide +kernel
theorem dX3_is_6 : decode cX3_is 6 = .ok (.i2l, 1) := by decide +kernel
theorem dX3_is_7 : decode cX3_is 7 = .ok (.lconst 0, 1) := by decide +kernel
theorem dX3_is_8 : decode cX3_is 8 = .ok (.lconst 1, 1) := by decide +kernel
theorem dX3_is_9 : decode cX3_is 9 = .ok (.invokestatic 88, 3) := by decide +kernel
theorem dX3_is_12 : decode cX3_is 12 = .ok (.ifCond .ne 6, 3) := by decide +kernel
theorem dX3_is_15 : decode cX3_is 15 = .ok (.bipush (-2), 2) := by decide +kernel
theorem dX3_is_17 : decode cX3_is 17 = .ok (.ireturn, 1) := by decide +kernel
theorem dX3_is_18 : decode cX3_is 18 = .ok (.iconst 1, 1) := by decide +kernel
theorem dX3_is_19 : decode cX3_is 19 = .ok (.istore_n 2, 1) := by decide +kernel
theorem dX3_is_20 : decode cX3_is 20 = .ok (.iconst 0, 1) := by decide +kernel
theorem dX3_is_21 : decode cX3_is 21 = .ok (.istore_n 3, 1) := by decide +kernel
theorem dX3_is_22 : decode cX3_is 22 = .ok (.iload_n 3, 1) := by decide +kernel
theorem dX3_is_23 : decode cX3_is 23 = .ok (.aload_n 0, 1) := by decide +kernel
theorem dX3_is_24 : decode cX3_is 24 = .ok (.getfield 92, 3) := by decide +kernel
theorem dX3_is_27 : decode cX3_is 27 = .ok (.if_icmp .ge 75, 3) := by decide +kernel
theorem dX3_is_30 : decode cX3_is 30 = .ok (.iconst 0, 1) := by decide +kernel
theorem dX3_is_31 : decode cX3_is 31 = .ok (.istore 4, 2) := by decide +kernel
theorem dX3_is_33 : decode cX3_is 33 = .ok (.iload 4, 2) := by decide +kernel
theorem dX3_is_35 : decode cX3_is 35 = .ok (.aload_n 0, 1) := by decide +kernel
theorem dX3_is_36 : decode cX3_is 36 = .ok (.getfield 7, 3) := by decide +kernel
theorem dX3_is_39 : decode cX3_is 39 = .ok (.if_icmp .ge 57, 3) := by decide +kernel
theorem dX3_is_42 : decode cX3_is 42 = .ok (.iload_n 2, 1) := by decide +kernel
theorem dX3_is_43 : decode cX3_is 43 = .ok (.ifCond .eq 45, 3) := by decide +kernel
theorem dX3_is_46 : decode cX3_is 46 = .ok (.aload_n 0, 1) := by decide +kernel
theorem dX3_is_47 : decode cX3_is 47 = .ok (.iload_n 3, 1) := by decide +kernel
theorem dX3_is_48 : decode cX3_is 48 = .ok (.iload 4, 2) := by decide +kernel
theorem dX3_is_50 : decode cX3_is 50 = .ok (.invokevirtual 124, 3) := by decide +kernel
theorem dX3_is_53 : decode cX3_is 53 = .ok (.iload_n 1, 1) := by decide +kernel
theorem dX3_is_54 : decode cX3_is 54 = .ok (.ifCond .ne 20, 3) := by decide +kernel
theorem dX3_is_57 : decode cX3_is 57 = .ok (.aload_n 0, 1) := by decide +kernel
theorem dX3_is_58 : decode cX3_is 58 = .ok (.iload_n 3, 1) := by decide +kernel
theorem dX3_is_59 : decode cX3_is 59 = .ok (.aload_n 0, 1) := by decide +kernel
theorem dX3_is_60 : decode cX3_is 60 = .ok (.getfield 7, 3) := by decide +kernel
theorem dX3_is_63 : decode cX3_is 63 = .ok (.iconst 1, 1) := by decide +kernel
theorem dX3_is_64 : decode cX3_is 64 = .ok (.isub, 1) := by decide +kernel
theorem dX3_is_65 : decode cX3_is 65 = .ok (.iload 4, 2) := by decide +kernel
theorem dX3_is_67 : decode cX3_is 67 = .ok (.isub, 1) := by decide +kernel
theorem dX3_is_68 : decode cX3_is 68 = .ok (.invokevirtual 124, 3) := by decide +kernel
theorem dX3_is_71 : decode cX3_is 71 = .ok (.goto 10, 3) := by decide +kernel
theorem dX3_is_74 : decode cX3_is 74 = .ok (.aload_n 0, 1) := by decide +kernel
theorem dX3_is_75 : decode cX3_is 75 = .ok (.iload_n 3, 1) := by decide +kernel
theorem dX3_is_76 : decode cX3_is 76 = .ok (.iload 4, 2) := by decide +kernel
theorem dX3_is_78 : decode cX3_is 78 = .ok (.invokevirtual 120, 3) := by decide +kernel
theorem dX3_is_81 : decode cX3_is 81 = .ok (.if_icmp .ne 7, 3) := by decide +kernel
theorem dX3_is_84 : decode cX3_is 84 = .ok (.iconst 1, 1) := by decide +kernel
theorem dX3_is_85 : decode cX3_is 85 = .ok (.goto 4, 3) := by decide +kernel
theorem dX3_is_88 : decode cX3_is 88 = .ok (.iconst 0, 1) := by decide +kernel
theorem dX3_is_89 : decode cX3_is 89 = .ok (.istore_n 2, 1) := by decide +kernel
theorem dX3_is_90 : decode cX3_is 90 = .ok (.iinc 4 1, 3) := by decide +kernel
theorem dX3_is_93 : decode cX3_is 93 = .ok (.goto (-60), 3) := by decide +kernel
theorem dX3_is_96 : decode cX3_is 96 = .ok (.iinc 3 1, 3) := by decide +kernel
theorem dX3_is_99 : decode cX3_is 99 = .ok (.goto (-77), 3) := by decide +kernel
theorem dX3_is_102 : decode cX3_is 102 = .ok (.iload_n 2, 1) := by decide +kernel
theorem dX3_is_103 : decode cX3_is 103 = .ok (.ifCond .eq 7, 3) := by decide +kernel
theorem dX3_is_106 : decode cX3_is 106 = .ok (.iconst 1, 1) := by decide +kernel
theorem dX3_is_107 : decode cX3_is 107 = .ok (.goto 4, 3) := by decide +kernel
theorem dX3_is_110 : decode cX3_is 110 = .ok (.iconst 0, 1) := by decide +kernel
theorem dX3_is_111 : decode cX3_is 111 = .ok (.ireturn, 1) := by decide +kernel
theorem dX3_rows_0 : decode cX3_rows 0 = .ok (.aload_n 0, 1) := by decide +kernel
theorem dX3_rows_1 : decode cX3_rows 1 = .ok (.iconst 0, 1) := by decide +kernel
theorem dX3_rows_2 : decode cX3_rows 2 = .ok (.putfield 85, 3) := by decide +kernel
theorem dX3_rows_5 : decode cX3_rows 5 = .ok (.iconst 0, 1) := by decide +kernel
theorem dX3_rows_6 : decode cX3_rows 6 = .ok (.istore_n 1, 1) := by decide +kernel
theorem dX3_rows_7 : decode cX3_rows 7 = .ok (.iconst 0, 1) := by decide +kernel
