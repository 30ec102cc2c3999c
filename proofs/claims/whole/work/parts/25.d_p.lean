theorem dX1_init_0 : decode cX1_init 0 = .ok (.aload_n 0, 1) := by decide +kernel
theorem dX1_init_1 : decode cX1_init 1 = .ok (.invokespecial 5, 3) := by decide +kernel
theorem dX1_init_4 : decode cX1_init 4 = .ok (.aload_n 0, 1) := by decide +kernel
theorem dX1_init_5 : decode cX1_init 5 = .ok (.sipush 2480, 3) := by decide +kernel
theorem dX1_init_8 : decode cX1_init 8 = .ok (.newarray .int, 2) := by decide +kernel
theorem dX1_init_10 : decode cX1_init 10 = .ok (.putfield 11, 3) := by decide +kernel
theorem dX1_init_13 : decode cX1_init 13 = .ok (.aload_n 0, 1) := by decide +kernel
theorem dX1_init_14 : decode cX1_init 14 = .ok (.sipush 2480, 3) := by decide +kernel
theorem dX1_init_17 : decode cX1_init 17 = .ok (.newarray .long, 2) := by decide +kernel
theorem dX1_init_19 : decode cX1_init 19 = .ok (.putfield 15, 3) := by decide +kernel
theorem dX1_init_22 : decode cX1_init 22 = .ok (.return_, 1) := by decide +kernel
theorem dX1_plan_0 : decode cX1_plan 0 = .ok (.aload_n 0, 1) := by decide +kernel
theorem dX1_plan_1 : decode cX1_plan 1 = .ok (.iload_n 3, 1) := by decide +kernel
theorem dX1_plan_2 : decode cX1_plan 2 = .ok (.invokevirtual 19, 3) := by decide +kernel
theorem dX1_plan_5 : decode cX1_plan 5 = .ok (.iload_n 3, 1) := by decide +kernel
theorem dX1_plan_6 : decode cX1_plan 6 = .ok (.iconst 1, 1) := by decide +kernel
theorem dX1_plan_7 : decode cX1_plan 7 = .ok (.isub, 1) := by decide +kernel
theorem dX1_plan_8 : decode cX1_plan 8 = .ok (.istore 5, 2) := by decide +kernel
theorem dX1_plan_10 : decode cX1_plan 10 = .ok (.iload 5, 2) := by decide +kernel
theorem dX1_plan_12 : decode cX1_plan 12 = .ok (.ifCond .lt 18, 3) := by decide +kernel
theorem dX1_plan_15 : decode cX1_plan 15 = .ok (.aload_n 0, 1) := by decide +kernel
theorem dX1_plan_16 : decode cX1_plan 16 = .ok (.aload_n 1, 1) := by decide +kernel
theorem dX1_plan_17 : decode cX1_plan 17 = .ok (.iload 5, 2) := by decide +kernel
theorem dX1_plan_19 : decode cX1_plan 19 = .ok (.iload 4, 2) := by decide +kernel
theorem dX1_plan_21 : decode cX1_plan 21 = .ok (.invokevirtual 23, 3) := by decide +kernel
theorem dX1_plan_24 : decode cX1_plan 24 = .ok (.iinc 5 (-1), 3) := by decide +kernel
theorem dX1_plan_27 : decode cX1_plan 27 = .ok (.goto (-17), 3) := by decide +kernel
theorem dX1_plan_30 : decode cX1_plan 30 = .ok (.aload_n 0, 1) := by decide +kernel
theorem dX1_plan_31 : decode cX1_plan 31 = .ok (.iconst 0, 1) := by decide +kernel
theorem dX1_plan_32 : decode cX1_plan 32 = .ok (.putfield 27, 3) := by decide +kernel
theorem dX1_plan_35 : decode cX1_plan 35 = .ok (.aload_n 0, 1) := by decide +kernel
theorem dX1_plan_36 : decode cX1_plan 36 = .ok (.aload_n 1, 1) := by decide +kernel
theorem dX1_plan_37 : decode cX1_plan 37 = .ok (.iload_n 2, 1) := by decide +kernel
theorem dX1_plan_38 : decode cX1_plan 38 = .ok (.invokevirtual 31, 3) := by decide +kernel
theorem dX1_plan_41 : decode cX1_plan 41 = .ok (.aload_n 1, 1) := by decide +kernel
theorem dX1_plan_42 : decode cX1_plan 42 = .ok (.getfield 37, 3) := by decide +kernel
theorem dX1_plan_45 : decode cX1_plan 45 = .ok (.iconst 0, 1) := by decide +kernel
theorem dX1_plan_46 : decode cX1_plan 46 = .ok (.iaload, 1) := by decide +kernel
theorem dX1_plan_47 : decode cX1_plan 47 = .ok (.if_icmp .ne 7, 3) := by decide +kernel
theorem dX1_plan_50 : decode cX1_plan 50 = .ok (.iconst 0, 1) := by decide +kernel
theorem dX1_plan_51 : decode cX1_plan 51 = .ok (.goto 4, 3) := by decide +kernel
theorem dX1_plan_54 : decode cX1_plan 54 = .ok (.iconst 1, 1) := by decide +kernel
theorem dX1_plan_55 : decode cX1_plan 55 = .ok (.putfield 40, 3) := by decide +kernel
theorem dX1_plan_58 : decode cX1_plan 58 = .ok (.aload_n 0, 1) := by decide +kernel
theorem dX1_plan_59 : decode cX1_plan 59 = .ok (.aload_n 1, 1) := by decide +kernel
theorem dX1_plan_60 : decode cX1_plan 60 = .ok (.iload_n 2, 1) := by decide +kernel
theorem dX1_plan_61 : decode cX1_plan 61 = .ok (.invokevirtual 43, 3) := by decide +kernel
theorem dX1_plan_64 : decode cX1_plan 64 = .ok (.iload 4, 2) := by decide +kernel
theorem dX1_plan_66 : decode cX1_plan 66 = .ok (.invokestatic 46, 3) := by decide +kernel
theorem dX1_plan_69 : decode cX1_plan 69 = .ok (.putfield 52, 3) := by decide +kernel
theorem dX1_plan_72 : decode cX1_plan 72 = .ok (.iconst 0, 1) := by decide +kernel
theorem dX1_plan_73 : decode cX1_plan 73 = .ok (.aload_n 0, 1) := by decide +kernel
theorem dX1_plan_74 : decode cX1_plan 74 = .ok (.getfield 27, 3) := by decide +kernel
theorem dX1_plan_77 : decode cX1_plan 77 = .ok (.aload_n 0, 1) := by decide +kernel
theorem dX1_plan_78 : decode cX1_plan 78 = .ok (.getfield 40, 3) := by decide +kernel
theorem dX1_plan_81 : decode cX1_plan 81 = .ok (.aload_n 0, 1) := by decide +kernel
theorem dX1_plan_82 : decode cX1_plan 82 = .ok (.getfield 52, 3) := by decide +kernel
theorem dX1_plan_85 : decode cX1_plan 85 = .ok (.invokestatic 55, 3) := by decide +kernel
theorem dX1_plan_88 : decode cX1_plan 88 = .ok (.istore 5, 2) := by decide +kernel
theorem dX1_plan_90 : decode cX1_plan 90 = .ok (.aload_n 0, 1) := by decide +kernel
theorem dX1_plan_91 : decode cX1_plan 91 = .ok (.getfield 11, 3) := by decide +kernel
theorem dX1_plan_94 : decode cX1_plan 94 = .ok (.iload 5, 2) := by decide +kernel
theorem dX1_plan_96 : decode cX1_plan 96 = .ok (.iaload, 1) := by decide +kernel
theorem dX1_plan_97 : decode cX1_plan 97 = .ok (.sipush 1000, 3) := by decide +kernel
theorem dX1_plan_100 : decode cX1_plan 100 = .ok (.if_icmp .lt 10, 3) := by decide +kernel
theorem dX1_plan_103 : decode cX1_plan 103 = .ok (.aload_n 1, 1) := by decide +kernel
theorem dX1_plan_104 : decode cX1_plan 104 = .ok (.bipush (-99), 2) := by decide +kernel
theorem dX1_plan_106 : decode cX1_plan 106 = .ok (.putfield 59, 3) := by decide +kernel
theorem dX1_plan_109 : decode cX1_plan 109 = .ok (.return_, 1) := by decide +kernel
theorem dX1_plan_110 : decode cX1_plan 110 = .ok (.aload_n 1, 1) := by decide +kernel
theorem dX1_plan_111 : decode cX1_plan 111 = .ok (.aload_n 0, 1) := by decide +kernel
theorem dX1_plan_112 : decode cX1_plan 112 = .ok (.getfield 11, 3) := by decide +kernel
theorem dX1_plan_115 : decode cX1_plan 115 = .ok (.iload 5, 2) := by decide +kernel
theorem dX1_plan_117 : decode cX1_plan 117 = .ok (.iaload, 1) := by decide +kernel
theorem dX1_plan_118 : decode cX1_plan 118 = .ok (.putfield 59, 3) := by decide +kernel
theorem dX1_plan_121 : decode cX1_plan 121 = .ok (.aload_n 1, 1) := by decide +kernel
theorem dX1_plan_122 : decode cX1_plan 122 = .ok (.aload_n 1, 1) := by decide +kernel
theorem dX1_plan_123 : decode cX1_plan 123 = .ok (.getfield 62, 3) := by decide +kernel
theorem dX1_plan_126 : decode cX1_plan 126 = .ok (.putfield 65, 3) := by decide +kernel
theorem dX1_plan_129 : decode cX1_plan 129 = .ok (.aload_n 0, 1) := by decide +kernel
theorem dX1_plan_130 : decode cX1_plan 130 = .ok (.aload_n 1, 1) := by decide +kernel
theorem dX1_plan_131 : decode cX1_plan 131 = .ok (.aload_n 0, 1) := by decide +kernel
theorem dX1_plan_132 : decode cX1_plan 132 = .ok (.getfield 15, 3) := by decide +kernel
theorem dX1_plan_135 : decode cX1_plan 135 = .ok (.iload 5, 2) := by decide +kernel
theorem dX1_plan_137 : decode cX1_plan 137 = .ok (.laload, 1) := by decide +kernel
theorem dX1_plan_138 : decode cX1_plan 138 = .ok (.iload_n 3, 1) := by decide +kernel
theorem dX1_plan_139 : decode cX1_plan 139 = .ok (.invokevirtual 68, 3) := by decide +kernel
theorem dX1_plan_142 : decode cX1_plan 142 = .ok (.iconst 0, 1) := by decide +kernel
theorem dX1_plan_143 : decode cX1_plan 143 = .ok (.istore 6, 2) := by decide +kernel
theorem dX1_plan_145 : decode cX1_plan 145 = .ok (.iload 6, 2) := by decide +kernel
theorem dX1_plan_147 : decode cX1_plan 147 = .ok (.iload_n 3, 1) := by decide +kernel
theorem dX1_plan_148 : decode cX1_plan 148 = .ok (.if_icmp .ge 35, 3) := by decide +kernel
theorem dX1_plan_151 : decode cX1_plan 151 = .ok (.aload_n 1, 1) := by decide +kernel
theorem dX1_plan_152 : decode cX1_plan 152 = .ok (.getfield 72, 3) := by decide +kernel
theorem dX1_plan_155 : decode cX1_plan 155 = .ok (.iload 6, 2) := by decide +kernel
theorem dX1_plan_157 : decode cX1_plan 157 = .ok (.aload_n 0, 1) := by decide +kernel
theorem dX1_plan_158 : decode cX1_plan 158 = .ok (.aload_n 1, 1) := by decide +kernel
theorem dX1_plan_159 : decode cX1_plan 159 = .ok (.iload 6, 2) := by decide +kernel
theorem dX1_plan_161 : decode cX1_plan 161 = .ok (.invokevirtual 75, 3) := by decide +kernel
theorem dX1_plan_164 : decode cX1_plan 164 = .ok (.iastore, 1) := by decide +kernel
theorem dX1_plan_165 : decode cX1_plan 165 = .ok (.aload_n 0, 1) := by decide +kernel
theorem dX1_plan_166 : decode cX1_plan 166 = .ok (.aload_n 1, 1) := by decide +kernel
theorem dX1_plan_167 : decode cX1_plan 167 = .ok (.aload_n 1, 1) := by decide +kernel
theorem dX1_plan_168 : decode cX1_plan 168 = .ok (.getfield 72, 3) := by decide +kernel
theorem dX1_plan_171 : decode cX1_plan 171 = .ok (.iload 6, 2) := by decide +kernel
theorem dX1_plan_173 : decode cX1_plan 173 = .ok (.iaload, 1) := by decide +kernel
theorem dX1_plan_174 : decode cX1_plan 174 = .ok (.invokevirtual 79, 3) := by decide +kernel
theorem dX1_plan_177 : decode cX1_plan 177 = .ok (.iinc 6 1, 3) := by decide +kernel
theorem dX1_plan_180 : decode cX1_plan 180 = .ok (.goto (-35), 3) := by decide +kernel
theorem dX1_plan_183 : decode cX1_plan 183 = .ok (.return_, 1) := by decide +kernel
theorem dX1_index_0 : decode cX1_index 0 = .ok (.iload_n 0, 1) := by decide +kernel
theorem dX1_index_1 : decode cX1_index 1 = .ok (.iconst 4, 1) := by decide +kernel
theorem dX1_index_2 : decode cX1_index 2 = .ok (.imul, 1) := by decide +kernel
theorem dX1_index_3 : decode cX1_index 3 = .ok (.iload_n 1, 1) := by decide +kernel
theorem dX1_index_4 : decode cX1_index 4 = .ok (.iadd, 1) := by decide +kernel
theorem dX1_index_5 : decode cX1_index 5 = .ok (.iconst 2, 1) := by decide +kernel
theorem dX1_index_6 : decode cX1_index 6 = .ok (.imul, 1) := by decide +kernel
theorem dX1_index_7 : decode cX1_index 7 = .ok (.iload_n 2, 1) := by decide +kernel
theorem dX1_index_8 : decode cX1_index 8 = .ok (.iadd, 1) := by decide +kernel
theorem dX1_index_9 : decode cX1_index 9 = .ok (.bipush 10, 2) := by decide +kernel
theorem dX1_index_11 : decode cX1_index 11 = .ok (.imul, 1) := by decide +kernel
theorem dX1_index_12 : decode cX1_index 12 = .ok (.iload_n 3, 1) := by decide +kernel
theorem dX1_index_13 : decode cX1_index 13 = .ok (.iadd, 1) := by decide +kernel
theorem dX1_index_14 : decode cX1_index 14 = .ok (.ireturn, 1) := by decide +kernel
theorem dX1_roundFrom_0 : decode cX1_roundFrom 0 = .ok (.iload_n 0, 1) := by decide +kernel
theorem dX1_roundFrom_1 : decode cX1_roundFrom 1 = .ok (.iload_n 1, 1) := by decide +kernel
theorem dX1_roundFrom_2 : decode cX1_roundFrom 2 = .ok (.ifCond .ne 7, 3) := by decide +kernel
theorem dX1_roundFrom_5 : decode cX1_roundFrom 5 = .ok (.iconst 1, 1) := by decide +kernel
theorem dX1_roundFrom_6 : decode cX1_roundFrom 6 = .ok (.goto 4, 3) := by decide +kernel
theorem dX1_roundFrom_9 : decode cX1_roundFrom 9 = .ok (.iconst 3, 1) := by decide +kernel
theorem dX1_roundFrom_10 : decode cX1_roundFrom 10 = .ok (.iadd, 1) := by decide +kernel
theorem dX1_roundFrom_11 : decode cX1_roundFrom 11 = .ok (.iconst 4, 1) := by decide +kernel
theorem dX1_roundFrom_12 : decode cX1_roundFrom 12 = .ok (.irem, 1) := by decide +kernel
theorem dX1_roundFrom_13 : decode cX1_roundFrom 13 = .ok (.ireturn, 1) := by decide +kernel
theorem dX1_fillEnd_0 : decode cX1_fillEnd 0 = .ok (.iload_n 1, 1) := by decide +kernel
theorem dX1_fillEnd_1 : decode cX1_fillEnd 1 = .ok (.iconst 0, 1) := by decide +kernel
theorem dX1_fillEnd_2 : decode cX1_fillEnd 2 = .ok (.iconst 0, 1) := by decide +kernel
theorem dX1_fillEnd_3 : decode cX1_fillEnd 3 = .ok (.iconst 0, 1) := by decide +kernel
theorem dX1_fillEnd_4 : decode cX1_fillEnd 4 = .ok (.invokestatic 55, 3) := by decide +kernel
theorem dX1_fillEnd_7 : decode cX1_fillEnd 7 = .ok (.istore_n 2, 1) := by decide +kernel
theorem dX1_fillEnd_8 : decode cX1_fillEnd 8 = .ok (.iconst 0, 1) := by decide +kernel
theorem dX1_fillEnd_9 : decode cX1_fillEnd 9 = .ok (.istore_n 3, 1) := by decide +kernel
theorem dX1_fillEnd_10 : decode cX1_fillEnd 10 = .ok (.iload_n 3, 1) := by decide +kernel
theorem dX1_fillEnd_11 : decode cX1_fillEnd 11 = .ok (.bipush 80, 2) := by decide +kernel
theorem dX1_fillEnd_13 : decode cX1_fillEnd 13 = .ok (.if_icmp .ge 29, 3) := by decide +kernel
theorem dX1_fillEnd_16 : decode cX1_fillEnd 16 = .ok (.aload_n 0, 1) := by decide +kernel
theorem dX1_fillEnd_17 : decode cX1_fillEnd 17 = .ok (.getfield 11, 3) := by decide +kernel
theorem dX1_fillEnd_20 : decode cX1_fillEnd 20 = .ok (.iload_n 2, 1) := by decide +kernel
theorem dX1_fillEnd_21 : decode cX1_fillEnd 21 = .ok (.iload_n 3, 1) := by decide +kernel
theorem dX1_fillEnd_22 : decode cX1_fillEnd 22 = .ok (.iadd, 1) := by decide +kernel
theorem dX1_fillEnd_23 : decode cX1_fillEnd 23 = .ok (.iconst 0, 1) := by decide +kernel
theorem dX1_fillEnd_24 : decode cX1_fillEnd 24 = .ok (.iastore, 1) := by decide +kernel
theorem dX1_fillEnd_25 : decode cX1_fillEnd 25 = .ok (.aload_n 0, 1) := by decide +kernel
theorem dX1_fillEnd_26 : decode cX1_fillEnd 26 = .ok (.getfield 15, 3) := by decide +kernel
theorem dX1_fillEnd_29 : decode cX1_fillEnd 29 = .ok (.iload_n 2, 1) := by decide +kernel
theorem dX1_fillEnd_30 : decode cX1_fillEnd 30 = .ok (.iload_n 3, 1) := by decide +kernel
theorem dX1_fillEnd_31 : decode cX1_fillEnd 31 = .ok (.iadd, 1) := by decide +kernel
theorem dX1_fillEnd_32 : decode cX1_fillEnd 32 = .ok (.ldc2_w 83, 3) := by decide +kernel
theorem dX1_fillEnd_35 : decode cX1_fillEnd 35 = .ok (.lastore, 1) := by decide +kernel
theorem dX1_fillEnd_36 : decode cX1_fillEnd 36 = .ok (.iinc 3 1, 3) := by decide +kernel
theorem dX1_fillEnd_39 : decode cX1_fillEnd 39 = .ok (.goto (-29), 3) := by decide +kernel
theorem dX1_fillEnd_42 : decode cX1_fillEnd 42 = .ok (.return_, 1) := by decide +kernel
theorem dX1_fillRow_0 : decode cX1_fillRow 0 = .ok (.iconst 0, 1) := by decide +kernel
theorem dX1_fillRow_1 : decode cX1_fillRow 1 = .ok (.istore 4, 2) := by decide +kernel
theorem dX1_fillRow_3 : decode cX1_fillRow 3 = .ok (.iload 4, 2) := by decide +kernel
theorem dX1_fillRow_5 : decode cX1_fillRow 5 = .ok (.iconst 4, 1) := by decide +kernel
theorem dX1_fillRow_6 : decode cX1_fillRow 6 = .ok (.if_icmp .ge 193, 3) := by decide +kernel
theorem dX1_fillRow_9 : decode cX1_fillRow 9 = .ok (.aload_n 0, 1) := by decide +kernel
theorem dX1_fillRow_10 : decode cX1_fillRow 10 = .ok (.sipush 1000, 3) := by decide +kernel
theorem dX1_fillRow_13 : decode cX1_fillRow 13 = .ok (.putfield 85, 3) := by decide +kernel
theorem dX1_fillRow_16 : decode cX1_fillRow 16 = .ok (.aload_n 0, 1) := by decide +kernel
theorem dX1_fillRow_17 : decode cX1_fillRow 17 = .ok (.lconst 0, 1) := by decide +kernel
theorem dX1_fillRow_18 : decode cX1_fillRow 18 = .ok (.putfield 88, 3) := by decide +kernel
theorem dX1_fillRow_21 : decode cX1_fillRow 21 = .ok (.aload_n 0, 1) := by decide +kernel
theorem dX1_fillRow_22 : decode cX1_fillRow 22 = .ok (.aload_n 1, 1) := by decide +kernel
theorem dX1_fillRow_23 : decode cX1_fillRow 23 = .ok (.iload_n 2, 1) := by decide +kernel
theorem dX1_fillRow_24 : decode cX1_fillRow 24 = .ok (.iload 4, 2) := by decide +kernel
theorem dX1_fillRow_26 : decode cX1_fillRow 26 = .ok (.iconst 0, 1) := by decide +kernel
theorem dX1_fillRow_27 : decode cX1_fillRow 27 = .ok (.invokevirtual 92, 3) := by decide +kernel
theorem dX1_fillRow_30 : decode cX1_fillRow 30 = .ok (.aload_n 0, 1) := by decide +kernel
theorem dX1_fillRow_31 : decode cX1_fillRow 31 = .ok (.aload_n 1, 1) := by decide +kernel
theorem dX1_fillRow_32 : decode cX1_fillRow 32 = .ok (.iload_n 2, 1) := by decide +kernel
theorem dX1_fillRow_33 : decode cX1_fillRow 33 = .ok (.iload 4, 2) := by decide +kernel
theorem dX1_fillRow_35 : decode cX1_fillRow 35 = .ok (.iconst 1, 1) := by decide +kernel
theorem dX1_fillRow_36 : decode cX1_fillRow 36 = .ok (.invokevirtual 92, 3) := by decide +kernel
theorem dX1_fillRow_39 : decode cX1_fillRow 39 = .ok (.aload_n 0, 1) := by decide +kernel
theorem dX1_fillRow_40 : decode cX1_fillRow 40 = .ok (.getfield 85, 3) := by decide +kernel
theorem dX1_fillRow_43 : decode cX1_fillRow 43 = .ok (.istore 5, 2) := by decide +kernel
theorem dX1_fillRow_45 : decode cX1_fillRow 45 = .ok (.aload_n 0, 1) := by decide +kernel
theorem dX1_fillRow_46 : decode cX1_fillRow 46 = .ok (.getfield 88, 3) := by decide +kernel
theorem dX1_fillRow_49 : decode cX1_fillRow 49 = .ok (.lstore 6, 2) := by decide +kernel
theorem dX1_fillRow_51 : decode cX1_fillRow 51 = .ok (.iconst 0, 1) := by decide +kernel
theorem dX1_fillRow_52 : decode cX1_fillRow 52 = .ok (.istore 8, 2) := by decide +kernel
theorem dX1_fillRow_54 : decode cX1_fillRow 54 = .ok (.iload 8, 2) := by decide +kernel
theorem dX1_fillRow_56 : decode cX1_fillRow 56 = .ok (.iconst 2, 1) := by decide +kernel
theorem dX1_fillRow_57 : decode cX1_fillRow 57 = .ok (.if_icmp .ge 136, 3) := by decide +kernel
theorem dX1_fillRow_60 : decode cX1_fillRow 60 = .ok (.aload_n 1, 1) := by decide +kernel
theorem dX1_fillRow_61 : decode cX1_fillRow 61 = .ok (.iload_n 2, 1) := by decide +kernel
theorem dX1_fillRow_62 : decode cX1_fillRow 62 = .ok (.aload_n 1, 1) := by decide +kernel
theorem dX1_fillRow_63 : decode cX1_fillRow 63 = .ok (.iload 4, 2) := by decide +kernel
theorem dX1_fillRow_65 : decode cX1_fillRow 65 = .ok (.iload 8, 2) := by decide +kernel
theorem dX1_fillRow_67 : decode cX1_fillRow 67 = .ok (.invokevirtual 96, 3) := by decide +kernel
theorem dX1_fillRow_70 : decode cX1_fillRow 70 = .ok (.invokevirtual 99, 3) := by decide +kernel
theorem dX1_fillRow_73 : decode cX1_fillRow 73 = .ok (.istore 9, 2) := by decide +kernel
theorem dX1_fillRow_75 : decode cX1_fillRow 75 = .ok (.iconst 0, 1) := by decide +kernel
theorem dX1_fillRow_76 : decode cX1_fillRow 76 = .ok (.istore 10, 2) := by decide +kernel
theorem dX1_fillRow_78 : decode cX1_fillRow 78 = .ok (.iload 10, 2) := by decide +kernel
theorem dX1_fillRow_80 : decode cX1_fillRow 80 = .ok (.iload_n 3, 1) := by decide +kernel
theorem dX1_fillRow_81 : decode cX1_fillRow 81 = .ok (.if_icmp .gt 106, 3) := by decide +kernel
theorem dX1_fillRow_84 : decode cX1_fillRow 84 = .ok (.aload_n 0, 1) := by decide +kernel
theorem dX1_fillRow_85 : decode cX1_fillRow 85 = .ok (.iload 5, 2) := by decide +kernel
theorem dX1_fillRow_87 : decode cX1_fillRow 87 = .ok (.putfield 85, 3) := by decide +kernel
theorem dX1_fillRow_90 : decode cX1_fillRow 90 = .ok (.aload_n 0, 1) := by decide +kernel
theorem dX1_fillRow_91 : decode cX1_fillRow 91 = .ok (.lload 6, 2) := by decide +kernel
theorem dX1_fillRow_93 : decode cX1_fillRow 93 = .ok (.putfield 88, 3) := by decide +kernel
theorem dX1_fillRow_96 : decode cX1_fillRow 96 = .ok (.iload 9, 2) := by decide +kernel
theorem dX1_fillRow_98 : decode cX1_fillRow 98 = .ok (.ifCond .eq 45, 3) := by decide +kernel
theorem dX1_fillRow_101 : decode cX1_fillRow 101 = .ok (.iload 10, 2) := by decide +kernel
theorem dX1_fillRow_103 : decode cX1_fillRow 103 = .ok (.iload_n 3, 1) := by decide +kernel
theorem dX1_fillRow_104 : decode cX1_fillRow 104 = .ok (.if_icmp .ge 39, 3) := by decide +kernel
theorem dX1_fillRow_107 : decode cX1_fillRow 107 = .ok (.iload_n 2, 1) := by decide +kernel
theorem dX1_fillRow_108 : decode cX1_fillRow 108 = .ok (.iconst 1, 1) := by decide +kernel
theorem dX1_fillRow_109 : decode cX1_fillRow 109 = .ok (.iadd, 1) := by decide +kernel
theorem dX1_fillRow_110 : decode cX1_fillRow 110 = .ok (.iload 4, 2) := by decide +kernel
theorem dX1_fillRow_112 : decode cX1_fillRow 112 = .ok (.iload 8, 2) := by decide +kernel
theorem dX1_fillRow_114 : decode cX1_fillRow 114 = .ok (.iload 10, 2) := by decide +kernel
theorem dX1_fillRow_116 : decode cX1_fillRow 116 = .ok (.iconst 1, 1) := by decide +kernel
theorem dX1_fillRow_117 : decode cX1_fillRow 117 = .ok (.iadd, 1) := by decide +kernel
theorem dX1_fillRow_118 : decode cX1_fillRow 118 = .ok (.invokestatic 55, 3) := by decide +kernel
theorem dX1_fillRow_121 : decode cX1_fillRow 121 = .ok (.istore 11, 2) := by decide +kernel
theorem dX1_fillRow_123 : decode cX1_fillRow 123 = .ok (.aload_n 0, 1) := by decide +kernel
theorem dX1_fillRow_124 : decode cX1_fillRow 124 = .ok (.aload_n 0, 1) := by decide +kernel
theorem dX1_fillRow_125 : decode cX1_fillRow 125 = .ok (.getfield 11, 3) := by decide +kernel
theorem dX1_fillRow_128 : decode cX1_fillRow 128 = .ok (.iload 11, 2) := by decide +kernel
theorem dX1_fillRow_130 : decode cX1_fillRow 130 = .ok (.iaload, 1) := by decide +kernel
theorem dX1_fillRow_131 : decode cX1_fillRow 131 = .ok (.iconst 1, 1) := by decide +kernel
theorem dX1_fillRow_132 : decode cX1_fillRow 132 = .ok (.iadd, 1) := by decide +kernel
theorem dX1_fillRow_133 : decode cX1_fillRow 133 = .ok (.aload_n 0, 1) := by decide +kernel
theorem dX1_fillRow_134 : decode cX1_fillRow 134 = .ok (.getfield 15, 3) := by decide +kernel
theorem dX1_fillRow_137 : decode cX1_fillRow 137 = .ok (.iload 11, 2) := by decide +kernel
theorem dX1_fillRow_139 : decode cX1_fillRow 139 = .ok (.laload, 1) := by decide +kernel
theorem dX1_fillRow_140 : decode cX1_fillRow 140 = .ok (.invokevirtual 103, 3) := by decide +kernel
theorem dX1_fillRow_143 : decode cX1_fillRow 143 = .ok (.aload_n 0, 1) := by decide +kernel
theorem dX1_fillRow_144 : decode cX1_fillRow 144 = .ok (.getfield 11, 3) := by decide +kernel
theorem dX1_fillRow_147 : decode cX1_fillRow 147 = .ok (.iload_n 2, 1) := by decide +kernel
theorem dX1_fillRow_148 : decode cX1_fillRow 148 = .ok (.iload 4, 2) := by decide +kernel
theorem dX1_fillRow_150 : decode cX1_fillRow 150 = .ok (.iload 8, 2) := by decide +kernel
theorem dX1_fillRow_152 : decode cX1_fillRow 152 = .ok (.iload 10, 2) := by decide +kernel
theorem dX1_fillRow_154 : decode cX1_fillRow 154 = .ok (.invokestatic 55, 3) := by decide +kernel
theorem dX1_fillRow_157 : decode cX1_fillRow 157 = .ok (.aload_n 0, 1) := by decide +kernel
theorem dX1_fillRow_158 : decode cX1_fillRow 158 = .ok (.getfield 85, 3) := by decide +kernel
theorem dX1_fillRow_161 : decode cX1_fillRow 161 = .ok (.iastore, 1) := by decide +kernel
theorem dX1_fillRow_162 : decode cX1_fillRow 162 = .ok (.aload_n 0, 1) := by decide +kernel
theorem dX1_fillRow_163 : decode cX1_fillRow 163 = .ok (.getfield 15, 3) := by decide +kernel
theorem dX1_fillRow_166 : decode cX1_fillRow 166 = .ok (.iload_n 2, 1) := by decide +kernel
theorem dX1_fillRow_167 : decode cX1_fillRow 167 = .ok (.iload 4, 2) := by decide +kernel
theorem dX1_fillRow_169 : decode cX1_fillRow 169 = .ok (.iload 8, 2) := by decide +kernel
theorem dX1_fillRow_171 : decode cX1_fillRow 171 = .ok (.iload 10, 2) := by decide +kernel
theorem dX1_fillRow_173 : decode cX1_fillRow 173 = .ok (.invokestatic 55, 3) := by decide +kernel
theorem dX1_fillRow_176 : decode cX1_fillRow 176 = .ok (.aload_n 0, 1) := by decide +kernel
theorem dX1_fillRow_177 : decode cX1_fillRow 177 = .ok (.getfield 88, 3) := by decide +kernel
theorem dX1_fillRow_180 : decode cX1_fillRow 180 = .ok (.lastore, 1) := by decide +kernel
theorem dX1_fillRow_181 : decode cX1_fillRow 181 = .ok (.iinc 10 1, 3) := by decide +kernel
theorem dX1_fillRow_184 : decode cX1_fillRow 184 = .ok (.goto (-106), 3) := by decide +kernel
theorem dX1_fillRow_187 : decode cX1_fillRow 187 = .ok (.iinc 8 1, 3) := by decide +kernel
theorem dX1_fillRow_190 : decode cX1_fillRow 190 = .ok (.goto (-136), 3) := by decide +kernel
theorem dX1_fillRow_193 : decode cX1_fillRow 193 = .ok (.iinc 4 1, 3) := by decide +kernel
theorem dX1_fillRow_196 : decode cX1_fillRow 196 = .ok (.goto (-193), 3) := by decide +kernel
theorem dX1_fillRow_199 : decode cX1_fillRow 199 = .ok (.return_, 1) := by decide +kernel
theorem dX1_offerTurned_0 : decode cX1_offerTurned 0 = .ok (.iload_n 3, 1) := by decide +kernel
theorem dX1_offerTurned_1 : decode cX1_offerTurned 1 = .ok (.iload 4, 2) := by decide +kernel
theorem dX1_offerTurned_3 : decode cX1_offerTurned 3 = .ok (.invokestatic 107, 3) := by decide +kernel
theorem dX1_offerTurned_6 : decode cX1_offerTurned 6 = .ok (.istore 5, 2) := by decide +kernel
theorem dX1_offerTurned_8 : decode cX1_offerTurned 8 = .ok (.aload_n 1, 1) := by decide +kernel
theorem dX1_offerTurned_9 : decode cX1_offerTurned 9 = .ok (.iload_n 2, 1) := by decide +kernel
theorem dX1_offerTurned_10 : decode cX1_offerTurned 10 = .ok (.aload_n 1, 1) := by decide +kernel
theorem dX1_offerTurned_11 : decode cX1_offerTurned 11 = .ok (.iload 5, 2) := by decide +kernel
theorem dX1_offerTurned_13 : decode cX1_offerTurned 13 = .ok (.iload 4, 2) := by decide +kernel
theorem dX1_offerTurned_15 : decode cX1_offerTurned 15 = .ok (.invokevirtual 96, 3) := by decide +kernel
theorem dX1_offerTurned_18 : decode cX1_offerTurned 18 = .ok (.invokevirtual 99, 3) := by decide +kernel
theorem dX1_offerTurned_21 : decode cX1_offerTurned 21 = .ok (.ifCond .eq 53, 3) := by decide +kernel
theorem dX1_offerTurned_24 : decode cX1_offerTurned 24 = .ok (.iload_n 2, 1) := by decide +kernel
theorem dX1_offerTurned_25 : decode cX1_offerTurned 25 = .ok (.iconst 1, 1) := by decide +kernel
theorem dX1_offerTurned_26 : decode cX1_offerTurned 26 = .ok (.iadd, 1) := by decide +kernel
theorem dX1_offerTurned_27 : decode cX1_offerTurned 27 = .ok (.iload 5, 2) := by decide +kernel
theorem dX1_offerTurned_29 : decode cX1_offerTurned 29 = .ok (.iload 4, 2) := by decide +kernel
theorem dX1_offerTurned_31 : decode cX1_offerTurned 31 = .ok (.iconst 0, 1) := by decide +kernel
theorem dX1_offerTurned_32 : decode cX1_offerTurned 32 = .ok (.invokestatic 55, 3) := by decide +kernel
theorem dX1_offerTurned_35 : decode cX1_offerTurned 35 = .ok (.istore 6, 2) := by decide +kernel
theorem dX1_offerTurned_37 : decode cX1_offerTurned 37 = .ok (.aload_n 0, 1) := by decide +kernel
theorem dX1_offerTurned_38 : decode cX1_offerTurned 38 = .ok (.aload_n 0, 1) := by decide +kernel
theorem dX1_offerTurned_39 : decode cX1_offerTurned 39 = .ok (.getfield 11, 3) := by decide +kernel
theorem dX1_offerTurned_42 : decode cX1_offerTurned 42 = .ok (.iload 6, 2) := by decide +kernel
theorem dX1_offerTurned_44 : decode cX1_offerTurned 44 = .ok (.iaload, 1) := by decide +kernel
theorem dX1_offerTurned_45 : decode cX1_offerTurned 45 = .ok (.iload 4, 2) := by decide +kernel
theorem dX1_offerTurned_47 : decode cX1_offerTurned 47 = .ok (.ifCond .ne 15, 3) := by decide +kernel
theorem dX1_offerTurned_50 : decode cX1_offerTurned 50 = .ok (.aload_n 0, 1) := by decide +kernel
theorem dX1_offerTurned_51 : decode cX1_offerTurned 51 = .ok (.getfield 15, 3) := by decide +kernel
theorem dX1_offerTurned_54 : decode cX1_offerTurned 54 = .ok (.iload 6, 2) := by decide +kernel
theorem dX1_offerTurned_56 : decode cX1_offerTurned 56 = .ok (.laload, 1) := by decide +kernel
theorem dX1_offerTurned_57 : decode cX1_offerTurned 57 = .ok (.iconst 1, 1) := by decide +kernel
theorem dX1_offerTurned_58 : decode cX1_offerTurned 58 = .ok (.lshl, 1) := by decide +kernel
theorem dX1_offerTurned_59 : decode cX1_offerTurned 59 = .ok (.goto 12, 3) := by decide +kernel
theorem dX1_offerTurned_62 : decode cX1_offerTurned 62 = .ok (.aload_n 0, 1) := by decide +kernel
theorem dX1_offerTurned_63 : decode cX1_offerTurned 63 = .ok (.getfield 15, 3) := by decide +kernel
theorem dX1_offerTurned_66 : decode cX1_offerTurned 66 = .ok (.iload 6, 2) := by decide +kernel
theorem dX1_offerTurned_68 : decode cX1_offerTurned 68 = .ok (.laload, 1) := by decide +kernel
theorem dX1_offerTurned_69 : decode cX1_offerTurned 69 = .ok (.iconst 1, 1) := by decide +kernel
theorem dX1_offerTurned_70 : decode cX1_offerTurned 70 = .ok (.lushr, 1) := by decide +kernel
theorem dX1_offerTurned_71 : decode cX1_offerTurned 71 = .ok (.invokevirtual 103, 3) := by decide +kernel
theorem dX1_offerTurned_74 : decode cX1_offerTurned 74 = .ok (.return_, 1) := by decide +kernel
theorem dX1_offer_0 : decode cX1_offer 0 = .ok (.iload_n 1, 1) := by decide +kernel
theorem dX1_offer_1 : decode cX1_offer 1 = .ok (.aload_n 0, 1) := by decide +kernel
theorem dX1_offer_2 : decode cX1_offer 2 = .ok (.getfield 85, 3) := by decide +kernel
theorem dX1_offer_5 : decode cX1_offer 5 = .ok (.if_icmp .ge 16, 3) := by decide +kernel
theorem dX1_offer_8 : decode cX1_offer 8 = .ok (.aload_n 0, 1) := by decide +kernel
theorem dX1_offer_9 : decode cX1_offer 9 = .ok (.iload_n 1, 1) := by decide +kernel
theorem dX1_offer_10 : decode cX1_offer 10 = .ok (.putfield 85, 3) := by decide +kernel
theorem dX1_offer_13 : decode cX1_offer 13 = .ok (.aload_n 0, 1) := by decide +kernel
theorem dX1_offer_14 : decode cX1_offer 14 = .ok (.lload_n 2, 1) := by decide +kernel
theorem dX1_offer_15 : decode cX1_offer 15 = .ok (.putfield 88, 3) := by decide +kernel
theorem dX1_offer_18 : decode cX1_offer 18 = .ok (.goto 21, 3) := by decide +kernel
theorem dX1_offer_21 : decode cX1_offer 21 = .ok (.iload_n 1, 1) := by decide +kernel
theorem dX1_offer_22 : decode cX1_offer 22 = .ok (.aload_n 0, 1) := by decide +kernel
theorem dX1_offer_23 : decode cX1_offer 23 = .ok (.getfield 85, 3) := by decide +kernel
theorem dX1_offer_26 : decode cX1_offer 26 = .ok (.if_icmp .ne 13, 3) := by decide +kernel
theorem dX1_offer_29 : decode cX1_offer 29 = .ok (.aload_n 0, 1) := by decide +kernel
theorem dX1_offer_30 : decode cX1_offer 30 = .ok (.dup, 1) := by decide +kernel
theorem dX1_offer_31 : decode cX1_offer 31 = .ok (.getfield 88, 3) := by decide +kernel
theorem dX1_offer_34 : decode cX1_offer 34 = .ok (.lload_n 2, 1) := by decide +kernel
theorem dX1_offer_35 : decode cX1_offer 35 = .ok (.lor, 1) := by decide +kernel
theorem dX1_offer_36 : decode cX1_offer 36 = .ok (.putfield 88, 3) := by decide +kernel
theorem dX1_offer_39 : decode cX1_offer 39 = .ok (.return_, 1) := by decide +kernel
theorem dX1_wantLeastTwist_0 : decode cX1_wantLeastTwist 0 = .ok (.sipush 1000, 3) := by decide +kernel
theorem dX1_wantLeastTwist_3 : decode cX1_wantLeastTwist 3 = .ok (.istore 5, 2) := by decide +kernel
theorem dX1_wantLeastTwist_5 : decode cX1_wantLeastTwist 5 = .ok (.aload_n 0, 1) := by decide +kernel
theorem dX1_wantLeastTwist_6 : decode cX1_wantLeastTwist 6 = .ok (.lconst 0, 1) := by decide +kernel
theorem dX1_wantLeastTwist_7 : decode cX1_wantLeastTwist 7 = .ok (.putfield 110, 3) := by decide +kernel
theorem dX1_wantLeastTwist_10 : decode cX1_wantLeastTwist 10 = .ok (.iload 4, 2) := by decide +kernel
theorem dX1_wantLeastTwist_12 : decode cX1_wantLeastTwist 12 = .ok (.ineg, 1) := by decide +kernel
theorem dX1_wantLeastTwist_13 : decode cX1_wantLeastTwist 13 = .ok (.istore 6, 2) := by decide +kernel
theorem dX1_wantLeastTwist_15 : decode cX1_wantLeastTwist 15 = .ok (.iload 6, 2) := by decide +kernel
theorem dX1_wantLeastTwist_17 : decode cX1_wantLeastTwist 17 = .ok (.iload 4, 2) := by decide +kernel
theorem dX1_wantLeastTwist_19 : decode cX1_wantLeastTwist 19 = .ok (.if_icmp .gt 78, 3) := by decide +kernel
theorem dX1_wantLeastTwist_22 : decode cX1_wantLeastTwist 22 = .ok (.lconst 1, 1) := by decide +kernel
theorem dX1_wantLeastTwist_23 : decode cX1_wantLeastTwist 23 = .ok (.bipush 30, 2) := by decide +kernel
theorem dX1_wantLeastTwist_25 : decode cX1_wantLeastTwist 25 = .ok (.iload 6, 2) := by decide +kernel
theorem dX1_wantLeastTwist_27 : decode cX1_wantLeastTwist 27 = .ok (.iadd, 1) := by decide +kernel
theorem dX1_wantLeastTwist_28 : decode cX1_wantLeastTwist 28 = .ok (.lshl, 1) := by decide +kernel
theorem dX1_wantLeastTwist_29 : decode cX1_wantLeastTwist 29 = .ok (.lstore 7, 2) := by decide +kernel
theorem dX1_wantLeastTwist_31 : decode cX1_wantLeastTwist 31 = .ok (.aload_n 1, 1) := by decide +kernel
theorem dX1_wantLeastTwist_32 : decode cX1_wantLeastTwist 32 = .ok (.getfield 62, 3) := by decide +kernel
theorem dX1_wantLeastTwist_35 : decode cX1_wantLeastTwist 35 = .ok (.aload_n 1, 1) := by decide +kernel
theorem dX1_wantLeastTwist_36 : decode cX1_wantLeastTwist 36 = .ok (.invokevirtual 113, 3) := by decide +kernel
theorem dX1_wantLeastTwist_39 : decode cX1_wantLeastTwist 39 = .ok (.iload 6, 2) := by decide +kernel
theorem dX1_wantLeastTwist_41 : decode cX1_wantLeastTwist 41 = .ok (.imul, 1) := by decide +kernel
theorem dX1_wantLeastTwist_42 : decode cX1_wantLeastTwist 42 = .ok (.iadd, 1) := by decide +kernel
theorem dX1_wantLeastTwist_43 : decode cX1_wantLeastTwist 43 = .ok (.invokestatic 117, 3) := by decide +kernel
theorem dX1_wantLeastTwist_46 : decode cX1_wantLeastTwist 46 = .ok (.istore 9, 2) := by decide +kernel
theorem dX1_wantLeastTwist_48 : decode cX1_wantLeastTwist 48 = .ok (.lload_n 2, 1) := by decide +kernel
theorem dX1_wantLeastTwist_49 : decode cX1_wantLeastTwist 49 = .ok (.lload 7, 2) := by decide +kernel
theorem dX1_wantLeastTwist_51 : decode cX1_wantLeastTwist 51 = .ok (.land, 1) := by decide +kernel
theorem dX1_wantLeastTwist_52 : decode cX1_wantLeastTwist 52 = .ok (.lconst 0, 1) := by decide +kernel
theorem dX1_wantLeastTwist_53 : decode cX1_wantLeastTwist 53 = .ok (.lcmp, 1) := by decide +kernel
theorem dX1_wantLeastTwist_54 : decode cX1_wantLeastTwist 54 = .ok (.ifCond .eq 37, 3) := by decide +kernel
theorem dX1_wantLeastTwist_57 : decode cX1_wantLeastTwist 57 = .ok (.iload 9, 2) := by decide +kernel
theorem dX1_wantLeastTwist_59 : decode cX1_wantLeastTwist 59 = .ok (.iload 5, 2) := by decide +kernel
theorem dX1_wantLeastTwist_61 : decode cX1_wantLeastTwist 61 = .ok (.if_icmp .gt 30, 3) := by decide +kernel
theorem dX1_wantLeastTwist_64 : decode cX1_wantLeastTwist 64 = .ok (.aload_n 0, 1) := by decide +kernel
theorem dX1_wantLeastTwist_65 : decode cX1_wantLeastTwist 65 = .ok (.iload 9, 2) := by decide +kernel
theorem dX1_wantLeastTwist_67 : decode cX1_wantLeastTwist 67 = .ok (.iload 5, 2) := by decide +kernel
theorem dX1_wantLeastTwist_69 : decode cX1_wantLeastTwist 69 = .ok (.if_icmp .ge 8, 3) := by decide +kernel
theorem dX1_wantLeastTwist_72 : decode cX1_wantLeastTwist 72 = .ok (.lload 7, 2) := by decide +kernel
theorem dX1_wantLeastTwist_74 : decode cX1_wantLeastTwist 74 = .ok (.goto 10, 3) := by decide +kernel
theorem dX1_wantLeastTwist_77 : decode cX1_wantLeastTwist 77 = .ok (.aload_n 0, 1) := by decide +kernel
theorem dX1_wantLeastTwist_78 : decode cX1_wantLeastTwist 78 = .ok (.getfield 110, 3) := by decide +kernel
theorem dX1_wantLeastTwist_81 : decode cX1_wantLeastTwist 81 = .ok (.lload 7, 2) := by decide +kernel
theorem dX1_wantLeastTwist_83 : decode cX1_wantLeastTwist 83 = .ok (.lor, 1) := by decide +kernel
theorem dX1_wantLeastTwist_84 : decode cX1_wantLeastTwist 84 = .ok (.putfield 110, 3) := by decide +kernel
theorem dX1_wantLeastTwist_87 : decode cX1_wantLeastTwist 87 = .ok (.iload 9, 2) := by decide +kernel
theorem dX1_wantLeastTwist_89 : decode cX1_wantLeastTwist 89 = .ok (.istore 5, 2) := by decide +kernel
theorem dX1_wantLeastTwist_91 : decode cX1_wantLeastTwist 91 = .ok (.iinc 6 1, 3) := by decide +kernel
theorem dX1_wantLeastTwist_94 : decode cX1_wantLeastTwist 94 = .ok (.goto (-79), 3) := by decide +kernel
theorem dX1_wantLeastTwist_97 : decode cX1_wantLeastTwist 97 = .ok (.return_, 1) := by decide +kernel
theorem dX1_firstTurn_0 : decode cX1_firstTurn 0 = .ok (.aload_n 0, 1) := by decide +kernel
theorem dX1_firstTurn_1 : decode cX1_firstTurn 1 = .ok (.getfield 11, 3) := by decide +kernel
theorem dX1_firstTurn_4 : decode cX1_firstTurn 4 = .ok (.iload_n 2, 1) := by decide +kernel
theorem dX1_firstTurn_5 : decode cX1_firstTurn 5 = .ok (.aload_n 0, 1) := by decide +kernel
theorem dX1_firstTurn_6 : decode cX1_firstTurn 6 = .ok (.getfield 27, 3) := by decide +kernel
theorem dX1_firstTurn_9 : decode cX1_firstTurn 9 = .ok (.aload_n 0, 1) := by decide +kernel
theorem dX1_firstTurn_10 : decode cX1_firstTurn 10 = .ok (.getfield 40, 3) := by decide +kernel
theorem dX1_firstTurn_13 : decode cX1_firstTurn 13 = .ok (.aload_n 0, 1) := by decide +kernel
theorem dX1_firstTurn_14 : decode cX1_firstTurn 14 = .ok (.getfield 52, 3) := by decide +kernel
theorem dX1_firstTurn_17 : decode cX1_firstTurn 17 = .ok (.invokestatic 55, 3) := by decide +kernel
theorem dX1_firstTurn_20 : decode cX1_firstTurn 20 = .ok (.iaload, 1) := by decide +kernel
theorem dX1_firstTurn_21 : decode cX1_firstTurn 21 = .ok (.istore_n 3, 1) := by decide +kernel
theorem dX1_firstTurn_22 : decode cX1_firstTurn 22 = .ok (.iconst 0, 1) := by decide +kernel
theorem dX1_firstTurn_23 : decode cX1_firstTurn 23 = .ok (.istore 4, 2) := by decide +kernel
theorem dX1_firstTurn_25 : decode cX1_firstTurn 25 = .ok (.iload 4, 2) := by decide +kernel
theorem dX1_firstTurn_27 : decode cX1_firstTurn 27 = .ok (.iconst 1, 1) := by decide +kernel
theorem dX1_firstTurn_28 : decode cX1_firstTurn 28 = .ok (.if_icmp .gt 94, 3) := by decide +kernel
theorem dX1_firstTurn_31 : decode cX1_firstTurn 31 = .ok (.aload_n 0, 1) := by decide +kernel
theorem dX1_firstTurn_32 : decode cX1_firstTurn 32 = .ok (.getfield 27, 3) := by decide +kernel
theorem dX1_firstTurn_35 : decode cX1_firstTurn 35 = .ok (.iload 4, 2) := by decide +kernel
theorem dX1_firstTurn_37 : decode cX1_firstTurn 37 = .ok (.invokestatic 107, 3) := by decide +kernel
theorem dX1_firstTurn_40 : decode cX1_firstTurn 40 = .ok (.istore 5, 2) := by decide +kernel
theorem dX1_firstTurn_42 : decode cX1_firstTurn 42 = .ok (.iload_n 2, 1) := by decide +kernel
theorem dX1_firstTurn_43 : decode cX1_firstTurn 43 = .ok (.iconst 1, 1) := by decide +kernel
theorem dX1_firstTurn_44 : decode cX1_firstTurn 44 = .ok (.iadd, 1) := by decide +kernel
theorem dX1_firstTurn_45 : decode cX1_firstTurn 45 = .ok (.iload 5, 2) := by decide +kernel
theorem dX1_firstTurn_47 : decode cX1_firstTurn 47 = .ok (.iload 4, 2) := by decide +kernel
theorem dX1_firstTurn_49 : decode cX1_firstTurn 49 = .ok (.iconst 0, 1) := by decide +kernel
theorem dX1_firstTurn_50 : decode cX1_firstTurn 50 = .ok (.invokestatic 55, 3) := by decide +kernel
theorem dX1_firstTurn_53 : decode cX1_firstTurn 53 = .ok (.istore 6, 2) := by decide +kernel
theorem dX1_firstTurn_55 : decode cX1_firstTurn 55 = .ok (.aload_n 0, 1) := by decide +kernel
theorem dX1_firstTurn_56 : decode cX1_firstTurn 56 = .ok (.getfield 11, 3) := by decide +kernel
theorem dX1_firstTurn_59 : decode cX1_firstTurn 59 = .ok (.iload 6, 2) := by decide +kernel
theorem dX1_firstTurn_61 : decode cX1_firstTurn 61 = .ok (.iaload, 1) := by decide +kernel
theorem dX1_firstTurn_62 : decode cX1_firstTurn 62 = .ok (.iload_n 3, 1) := by decide +kernel
theorem dX1_firstTurn_63 : decode cX1_firstTurn 63 = .ok (.if_icmp .ne 26, 3) := by decide +kernel
theorem dX1_firstTurn_66 : decode cX1_firstTurn 66 = .ok (.aload_n 0, 1) := by decide +kernel
theorem dX1_firstTurn_67 : decode cX1_firstTurn 67 = .ok (.getfield 15, 3) := by decide +kernel
theorem dX1_firstTurn_70 : decode cX1_firstTurn 70 = .ok (.iload 6, 2) := by decide +kernel
theorem dX1_firstTurn_72 : decode cX1_firstTurn 72 = .ok (.laload, 1) := by decide +kernel
theorem dX1_firstTurn_73 : decode cX1_firstTurn 73 = .ok (.aload_n 0, 1) := by decide +kernel
theorem dX1_firstTurn_74 : decode cX1_firstTurn 74 = .ok (.iload 4, 2) := by decide +kernel
theorem dX1_firstTurn_76 : decode cX1_firstTurn 76 = .ok (.invokevirtual 120, 3) := by decide +kernel
theorem dX1_firstTurn_79 : decode cX1_firstTurn 79 = .ok (.land, 1) := by decide +kernel
theorem dX1_firstTurn_80 : decode cX1_firstTurn 80 = .ok (.lconst 0, 1) := by decide +kernel
theorem dX1_firstTurn_81 : decode cX1_firstTurn 81 = .ok (.lcmp, 1) := by decide +kernel
theorem dX1_firstTurn_82 : decode cX1_firstTurn 82 = .ok (.ifCond .eq 7, 3) := by decide +kernel
theorem dX1_firstTurn_85 : decode cX1_firstTurn 85 = .ok (.iconst 1, 1) := by decide +kernel
theorem dX1_firstTurn_86 : decode cX1_firstTurn 86 = .ok (.goto 4, 3) := by decide +kernel
theorem dX1_firstTurn_89 : decode cX1_firstTurn 89 = .ok (.iconst 0, 1) := by decide +kernel
theorem dX1_firstTurn_90 : decode cX1_firstTurn 90 = .ok (.istore 7, 2) := by decide +kernel
theorem dX1_firstTurn_92 : decode cX1_firstTurn 92 = .ok (.iload 7, 2) := by decide +kernel
theorem dX1_firstTurn_94 : decode cX1_firstTurn 94 = .ok (.ifCond .eq 22, 3) := by decide +kernel
theorem dX1_firstTurn_97 : decode cX1_firstTurn 97 = .ok (.aload_n 1, 1) := by decide +kernel
theorem dX1_firstTurn_98 : decode cX1_firstTurn 98 = .ok (.iload_n 2, 1) := by decide +kernel
theorem dX1_firstTurn_99 : decode cX1_firstTurn 99 = .ok (.aload_n 1, 1) := by decide +kernel
theorem dX1_firstTurn_100 : decode cX1_firstTurn 100 = .ok (.iload 5, 2) := by decide +kernel
theorem dX1_firstTurn_102 : decode cX1_firstTurn 102 = .ok (.iload 4, 2) := by decide +kernel
theorem dX1_firstTurn_104 : decode cX1_firstTurn 104 = .ok (.invokevirtual 96, 3) := by decide +kernel
theorem dX1_firstTurn_107 : decode cX1_firstTurn 107 = .ok (.invokevirtual 99, 3) := by decide +kernel
theorem dX1_firstTurn_110 : decode cX1_firstTurn 110 = .ok (.ifCond .eq 6, 3) := by decide +kernel
theorem dX1_firstTurn_113 : decode cX1_firstTurn 113 = .ok (.iload 4, 2) := by decide +kernel
theorem dX1_firstTurn_115 : decode cX1_firstTurn 115 = .ok (.ireturn, 1) := by decide +kernel
theorem dX1_firstTurn_116 : decode cX1_firstTurn 116 = .ok (.iinc 4 1, 3) := by decide +kernel
theorem dX1_firstTurn_119 : decode cX1_firstTurn 119 = .ok (.goto (-94), 3) := by decide +kernel
theorem dX1_firstTurn_122 : decode cX1_firstTurn 122 = .ok (.iconst 2, 1) := by decide +kernel
theorem dX1_firstTurn_123 : decode cX1_firstTurn 123 = .ok (.ireturn, 1) := by decide +kernel
theorem dX1_wantedBehind_0 : decode cX1_wantedBehind 0 = .ok (.iload_n 1, 1) := by decide +kernel
theorem dX1_wantedBehind_1 : decode cX1_wantedBehind 1 = .ok (.ifCond .ne 12, 3) := by decide +kernel
theorem dX1_wantedBehind_4 : decode cX1_wantedBehind 4 = .ok (.aload_n 0, 1) := by decide +kernel
theorem dX1_wantedBehind_5 : decode cX1_wantedBehind 5 = .ok (.getfield 110, 3) := by decide +kernel
theorem dX1_wantedBehind_8 : decode cX1_wantedBehind 8 = .ok (.iconst 1, 1) := by decide +kernel
theorem dX1_wantedBehind_9 : decode cX1_wantedBehind 9 = .ok (.lushr, 1) := by decide +kernel
theorem dX1_wantedBehind_10 : decode cX1_wantedBehind 10 = .ok (.goto 9, 3) := by decide +kernel
theorem dX1_wantedBehind_13 : decode cX1_wantedBehind 13 = .ok (.aload_n 0, 1) := by decide +kernel
theorem dX1_wantedBehind_14 : decode cX1_wantedBehind 14 = .ok (.getfield 110, 3) := by decide +kernel
theorem dX1_wantedBehind_17 : decode cX1_wantedBehind 17 = .ok (.iconst 1, 1) := by decide +kernel
theorem dX1_wantedBehind_18 : decode cX1_wantedBehind 18 = .ok (.lshl, 1) := by decide +kernel
theorem dX1_wantedBehind_19 : decode cX1_wantedBehind 19 = .ok (.lreturn, 1) := by decide +kernel
theorem dX1_goOn_0 : decode cX1_goOn 0 = .ok (.iload_n 2, 1) := by decide +kernel
theorem dX1_goOn_1 : decode cX1_goOn 1 = .ok (.iconst 2, 1) := by decide +kernel
theorem dX1_goOn_2 : decode cX1_goOn 2 = .ok (.if_icmp .ne 21, 3) := by decide +kernel
theorem dX1_goOn_5 : decode cX1_goOn 5 = .ok (.aload_n 0, 1) := by decide +kernel
theorem dX1_goOn_6 : decode cX1_goOn 6 = .ok (.aload_n 0, 1) := by decide +kernel
theorem dX1_goOn_7 : decode cX1_goOn 7 = .ok (.getfield 52, 3) := by decide +kernel
theorem dX1_goOn_10 : decode cX1_goOn 10 = .ok (.iconst 1, 1) := by decide +kernel
theorem dX1_goOn_11 : decode cX1_goOn 11 = .ok (.iadd, 1) := by decide +kernel
theorem dX1_goOn_12 : decode cX1_goOn 12 = .ok (.bipush 9, 2) := by decide +kernel
theorem dX1_goOn_14 : decode cX1_goOn 14 = .ok (.invokestatic 46, 3) := by decide +kernel
theorem dX1_goOn_17 : decode cX1_goOn 17 = .ok (.putfield 52, 3) := by decide +kernel
theorem dX1_goOn_20 : decode cX1_goOn 20 = .ok (.goto 48, 3) := by decide +kernel
theorem dX1_goOn_23 : decode cX1_goOn 23 = .ok (.aload_n 0, 1) := by decide +kernel
theorem dX1_goOn_24 : decode cX1_goOn 24 = .ok (.aload_n 0, 1) := by decide +kernel
theorem dX1_goOn_25 : decode cX1_goOn 25 = .ok (.getfield 27, 3) := by decide +kernel
theorem dX1_goOn_28 : decode cX1_goOn 28 = .ok (.iload_n 2, 1) := by decide +kernel
theorem dX1_goOn_29 : decode cX1_goOn 29 = .ok (.invokestatic 107, 3) := by decide +kernel
theorem dX1_goOn_32 : decode cX1_goOn 32 = .ok (.putfield 27, 3) := by decide +kernel
theorem dX1_goOn_35 : decode cX1_goOn 35 = .ok (.aload_n 0, 1) := by decide +kernel
theorem dX1_goOn_36 : decode cX1_goOn 36 = .ok (.iload_n 2, 1) := by decide +kernel
theorem dX1_goOn_37 : decode cX1_goOn 37 = .ok (.putfield 40, 3) := by decide +kernel
theorem dX1_goOn_40 : decode cX1_goOn 40 = .ok (.aload_n 0, 1) := by decide +kernel
theorem dX1_goOn_41 : decode cX1_goOn 41 = .ok (.iconst 0, 1) := by decide +kernel
theorem dX1_goOn_42 : decode cX1_goOn 42 = .ok (.putfield 52, 3) := by decide +kernel
theorem dX1_goOn_45 : decode cX1_goOn 45 = .ok (.aload_n 0, 1) := by decide +kernel
theorem dX1_goOn_46 : decode cX1_goOn 46 = .ok (.aload_n 0, 1) := by decide +kernel
theorem dX1_goOn_47 : decode cX1_goOn 47 = .ok (.iload_n 2, 1) := by decide +kernel
theorem dX1_goOn_48 : decode cX1_goOn 48 = .ok (.invokevirtual 120, 3) := by decide +kernel
theorem dX1_goOn_51 : decode cX1_goOn 51 = .ok (.putfield 110, 3) := by decide +kernel
theorem dX1_goOn_54 : decode cX1_goOn 54 = .ok (.aload_n 1, 1) := by decide +kernel
theorem dX1_goOn_55 : decode cX1_goOn 55 = .ok (.dup, 1) := by decide +kernel
theorem dX1_goOn_56 : decode cX1_goOn 56 = .ok (.getfield 65, 3) := by decide +kernel
theorem dX1_goOn_59 : decode cX1_goOn 59 = .ok (.aload_n 1, 1) := by decide +kernel
theorem dX1_goOn_60 : decode cX1_goOn 60 = .ok (.iload_n 2, 1) := by decide +kernel
theorem dX1_goOn_61 : decode cX1_goOn 61 = .ok (.invokevirtual 124, 3) := by decide +kernel
theorem dX1_goOn_64 : decode cX1_goOn 64 = .ok (.iadd, 1) := by decide +kernel
theorem dX1_goOn_65 : decode cX1_goOn 65 = .ok (.putfield 65, 3) := by decide +kernel
theorem dX1_goOn_68 : decode cX1_goOn 68 = .ok (.return_, 1) := by decide +kernel
