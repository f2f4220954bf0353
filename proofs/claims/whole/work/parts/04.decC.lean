theorem dX12_init_0 : decode cX12_init 0 = .ok (.aload_n 0, 1) := by decide +kernel
theorem dX12_init_1 : decode cX12_init 1 = .ok (.invokespecial 1, 3) := by decide +kernel
theorem dX12_init_4 : decode cX12_init 4 = .ok (.aload_n 0, 1) := by decide +kernel
theorem dX12_init_5 : decode cX12_init 5 = .ok (.sipush 9100, 3) := by decide +kernel
theorem dX12_init_8 : decode cX12_init 8 = .ok (.newarray .int, 2) := by decide +kernel
theorem dX12_init_10 : decode cX12_init 10 = .ok (.putfield 7, 3) := by decide +kernel
theorem dX12_init_13 : decode cX12_init 13 = .ok (.aload_n 0, 1) := by decide +kernel
theorem dX12_init_14 : decode cX12_init 14 = .ok (.sipush 9100, 3) := by decide +kernel
theorem dX12_init_17 : decode cX12_init 17 = .ok (.newarray .int, 2) := by decide +kernel
theorem dX12_init_19 : decode cX12_init 19 = .ok (.putfield 13, 3) := by decide +kernel
theorem dX12_init_22 : decode cX12_init 22 = .ok (.aload_n 0, 1) := by decide +kernel
theorem dX12_init_23 : decode cX12_init 23 = .ok (.sipush 240, 3) := by decide +kernel
theorem dX12_init_26 : decode cX12_init 26 = .ok (.newarray .int, 2) := by decide +kernel
theorem dX12_init_28 : decode cX12_init 28 = .ok (.putfield 16, 3) := by decide +kernel
theorem dX12_init_31 : decode cX12_init 31 = .ok (.aload_n 0, 1) := by decide +kernel
theorem dX12_init_32 : decode cX12_init 32 = .ok (.sipush 240, 3) := by decide +kernel
theorem dX12_init_35 : decode cX12_init 35 = .ok (.newarray .int, 2) := by decide +kernel
theorem dX12_init_37 : decode cX12_init 37 = .ok (.putfield 19, 3) := by decide +kernel
theorem dX12_init_40 : decode cX12_init 40 = .ok (.aload_n 0, 1) := by decide +kernel
theorem dX12_init_41 : decode cX12_init 41 = .ok (.bipush 120, 2) := by decide +kernel
theorem dX12_init_43 : decode cX12_init 43 = .ok (.newarray .int, 2) := by decide +kernel
theorem dX12_init_45 : decode cX12_init 45 = .ok (.putfield 22, 3) := by decide +kernel
theorem dX12_init_48 : decode cX12_init 48 = .ok (.aload_n 0, 1) := by decide +kernel
theorem dX12_init_49 : decode cX12_init 49 = .ok (.sipush 482, 3) := by decide +kernel
theorem dX12_init_52 : decode cX12_init 52 = .ok (.newarray .int, 2) := by decide +kernel
theorem dX12_init_54 : decode cX12_init 54 = .ok (.putfield 25, 3) := by decide +kernel
theorem dX12_init_57 : decode cX12_init 57 = .ok (.aload_n 0, 1) := by decide +kernel
theorem dX12_init_58 : decode cX12_init 58 = .ok (.sipush 130, 3) := by decide +kernel
theorem dX12_init_61 : decode cX12_init 61 = .ok (.newarray .int, 2) := by decide +kernel
theorem dX12_init_63 : decode cX12_init 63 = .ok (.putfield 28, 3) := by decide +kernel
theorem dX12_init_66 : decode cX12_init 66 = .ok (.aload_n 0, 1) := by decide +kernel
theorem dX12_init_67 : decode cX12_init 67 = .ok (.sipush 130, 3) := by decide +kernel
theorem dX12_init_70 : decode cX12_init 70 = .ok (.newarray .int, 2) := by decide +kernel
theorem dX12_init_72 : decode cX12_init 72 = .ok (.putfield 31, 3) := by decide +kernel
theorem dX12_init_75 : decode cX12_init 75 = .ok (.aload_n 0, 1) := by decide +kernel
theorem dX12_init_76 : decode cX12_init 76 = .ok (.sipush 128, 3) := by decide +kernel
theorem dX12_init_79 : decode cX12_init 79 = .ok (.newarray .int, 2) := by decide +kernel
theorem dX12_init_81 : decode cX12_init 81 = .ok (.putfield 34, 3) := by decide +kernel
theorem dX12_init_84 : decode cX12_init 84 = .ok (.aload_n 0, 1) := by decide +kernel
theorem dX12_init_85 : decode cX12_init 85 = .ok (.iconst 3, 1) := by decide +kernel
theorem dX12_init_86 : decode cX12_init 86 = .ok (.newarray .int, 2) := by decide +kernel
theorem dX12_init_88 : decode cX12_init 88 = .ok (.putfield 37, 3) := by decide +kernel
theorem dX12_init_91 : decode cX12_init 91 = .ok (.aload_n 0, 1) := by decide +kernel
theorem dX12_init_92 : decode cX12_init 92 = .ok (.bipush 90, 2) := by decide +kernel
theorem dX12_init_94 : decode cX12_init 94 = .ok (.newarray .int, 2) := by decide +kernel
theorem dX12_init_96 : decode cX12_init 96 = .ok (.putfield 40, 3) := by decide +kernel
theorem dX12_init_99 : decode cX12_init 99 = .ok (.aload_n 0, 1) := by decide +kernel
theorem dX12_init_100 : decode cX12_init 100 = .ok (.bipush 7, 2) := by decide +kernel
theorem dX12_init_102 : decode cX12_init 102 = .ok (.newarray .int, 2) := by decide +kernel
theorem dX12_init_104 : decode cX12_init 104 = .ok (.putfield 43, 3) := by decide +kernel
theorem dX12_init_107 : decode cX12_init 107 = .ok (.aload_n 0, 1) := by decide +kernel
theorem dX12_init_108 : decode cX12_init 108 = .ok (.bipush 7, 2) := by decide +kernel
theorem dX12_init_110 : decode cX12_init 110 = .ok (.newarray .int, 2) := by decide +kernel
theorem dX12_init_112 : decode cX12_init 112 = .ok (.putfield 46, 3) := by decide +kernel
theorem dX12_init_115 : decode cX12_init 115 = .ok (.aload_n 0, 1) := by decide +kernel
theorem dX12_init_116 : decode cX12_init 116 = .ok (.bipush 7, 2) := by decide +kernel
theorem dX12_init_118 : decode cX12_init 118 = .ok (.newarray .int, 2) := by decide +kernel
theorem dX12_init_120 : decode cX12_init 120 = .ok (.putfield 49, 3) := by decide +kernel
theorem dX12_init_123 : decode cX12_init 123 = .ok (.aload_n 0, 1) := by decide +kernel
theorem dX12_init_124 : decode cX12_init 124 = .ok (.bipush 8, 2) := by decide +kernel
theorem dX12_init_126 : decode cX12_init 126 = .ok (.newarray .int, 2) := by decide +kernel
theorem dX12_init_128 : decode cX12_init 128 = .ok (.putfield 52, 3) := by decide +kernel
theorem dX12_init_131 : decode cX12_init 131 = .ok (.aload_n 0, 1) := by decide +kernel
theorem dX12_init_132 : decode cX12_init 132 = .ok (.bipush 20, 2) := by decide +kernel
theorem dX12_init_134 : decode cX12_init 134 = .ok (.newarray .int, 2) := by decide +kernel
theorem dX12_init_136 : decode cX12_init 136 = .ok (.putfield 55, 3) := by decide +kernel
theorem dX12_init_139 : decode cX12_init 139 = .ok (.aload_n 0, 1) := by decide +kernel
theorem dX12_init_140 : decode cX12_init 140 = .ok (.bipush 40, 2) := by decide +kernel
theorem dX12_init_142 : decode cX12_init 142 = .ok (.newarray .int, 2) := by decide +kernel
theorem dX12_init_144 : decode cX12_init 144 = .ok (.putfield 58, 3) := by decide +kernel
theorem dX12_init_147 : decode cX12_init 147 = .ok (.aload_n 0, 1) := by decide +kernel
theorem dX12_init_148 : decode cX12_init 148 = .ok (.iconst 2, 1) := by decide +kernel
theorem dX12_init_149 : decode cX12_init 149 = .ok (.newarray .int, 2) := by decide +kernel
theorem dX12_init_151 : decode cX12_init 151 = .ok (.dup, 1) := by decide +kernel
theorem dX12_init_152 : decode cX12_init 152 = .ok (.iconst 0, 1) := by decide +kernel
theorem dX12_init_153 : decode cX12_init 153 = .ok (.iconst (-1), 1) := by decide +kernel
theorem dX12_init_154 : decode cX12_init 154 = .ok (.iastore, 1) := by decide +kernel
theorem dX12_init_155 : decode cX12_init 155 = .ok (.dup, 1) := by decide +kernel
theorem dX12_init_156 : decode cX12_init 156 = .ok (.iconst 1, 1) := by decide +kernel
theorem dX12_init_157 : decode cX12_init 157 = .ok (.iconst (-1), 1) := by decide +kernel
theorem dX12_init_158 : decode cX12_init 158 = .ok (.iastore, 1) := by decide +kernel
theorem dX12_init_159 : decode cX12_init 159 = .ok (.putfield 61, 3) := by decide +kernel
theorem dX12_init_162 : decode cX12_init 162 = .ok (.aload_n 0, 1) := by decide +kernel
theorem dX12_init_163 : decode cX12_init 163 = .ok (.bipush 20, 2) := by decide +kernel
theorem dX12_init_165 : decode cX12_init 165 = .ok (.newarray .int, 2) := by decide +kernel
theorem dX12_init_167 : decode cX12_init 167 = .ok (.putfield 64, 3) := by decide +kernel
theorem dX12_init_170 : decode cX12_init 170 = .ok (.aload_n 0, 1) := by decide +kernel
theorem dX12_init_171 : decode cX12_init 171 = .ok (.getfield 7, 3) := by decide +kernel
theorem dX12_init_174 : decode cX12_init 174 = .ok (.iconst 1, 1) := by decide +kernel
theorem dX12_init_175 : decode cX12_init 175 = .ok (.bipush 120, 2) := by decide +kernel
theorem dX12_init_177 : decode cX12_init 177 = .ok (.iastore, 1) := by decide +kernel
theorem dX12_init_178 : decode cX12_init 178 = .ok (.aload_n 0, 1) := by decide +kernel
theorem dX12_init_179 : decode cX12_init 179 = .ok (.getfield 7, 3) := by decide +kernel
theorem dX12_init_182 : decode cX12_init 182 = .ok (.iconst 2, 1) := by decide +kernel
theorem dX12_init_183 : decode cX12_init 183 = .ok (.bipush 8, 2) := by decide +kernel
theorem dX12_init_185 : decode cX12_init 185 = .ok (.iastore, 1) := by decide +kernel
theorem dX12_init_186 : decode cX12_init 186 = .ok (.aload_n 0, 1) := by decide +kernel
theorem dX12_init_187 : decode cX12_init 187 = .ok (.getfield 7, 3) := by decide +kernel
theorem dX12_init_190 : decode cX12_init 190 = .ok (.iconst 3, 1) := by decide +kernel
theorem dX12_init_191 : decode cX12_init 191 = .ok (.bipush 30, 2) := by decide +kernel
theorem dX12_init_193 : decode cX12_init 193 = .ok (.iastore, 1) := by decide +kernel
theorem dX12_init_194 : decode cX12_init 194 = .ok (.return_, 1) := by decide +kernel
theorem dX12_in_0 : decode cX12_in 0 = .ok (.iload_n 0, 1) := by decide +kernel
theorem dX12_in_1 : decode cX12_in 1 = .ok (.iload_n 1, 1) := by decide +kernel
theorem dX12_in_2 : decode cX12_in 2 = .ok (.if_icmp .lt 12, 3) := by decide +kernel
theorem dX12_in_5 : decode cX12_in 5 = .ok (.iload_n 0, 1) := by decide +kernel
theorem dX12_in_6 : decode cX12_in 6 = .ok (.iload_n 2, 1) := by decide +kernel
theorem dX12_in_7 : decode cX12_in 7 = .ok (.if_icmp .gt 7, 3) := by decide +kernel
theorem dX12_in_10 : decode cX12_in 10 = .ok (.iconst 1, 1) := by decide +kernel
theorem dX12_in_11 : decode cX12_in 11 = .ok (.goto 4, 3) := by decide +kernel
theorem dX12_in_14 : decode cX12_in 14 = .ok (.iconst 0, 1) := by decide +kernel
theorem dX12_in_15 : decode cX12_in 15 = .ok (.ireturn, 1) := by decide +kernel
theorem dX12_less_0 : decode cX12_less 0 = .ok (.iload_n 0, 1) := by decide +kernel
theorem dX12_less_1 : decode cX12_less 1 = .ok (.iload_n 1, 1) := by decide +kernel
theorem dX12_less_2 : decode cX12_less 2 = .ok (.if_icmp .ge 7, 3) := by decide +kernel
theorem dX12_less_5 : decode cX12_less 5 = .ok (.iload_n 0, 1) := by decide +kernel
theorem dX12_less_6 : decode cX12_less 6 = .ok (.goto 4, 3) := by decide +kernel
theorem dX12_less_9 : decode cX12_less 9 = .ok (.iload_n 1, 1) := by decide +kernel
theorem dX12_less_10 : decode cX12_less 10 = .ok (.ireturn, 1) := by decide +kernel
theorem dX12_more_0 : decode cX12_more 0 = .ok (.iload_n 0, 1) := by decide +kernel
theorem dX12_more_1 : decode cX12_more 1 = .ok (.iload_n 1, 1) := by decide +kernel
theorem dX12_more_2 : decode cX12_more 2 = .ok (.if_icmp .le 7, 3) := by decide +kernel
theorem dX12_more_5 : decode cX12_more 5 = .ok (.iload_n 0, 1) := by decide +kernel
theorem dX12_more_6 : decode cX12_more 6 = .ok (.goto 4, 3) := by decide +kernel
theorem dX12_more_9 : decode cX12_more 9 = .ok (.iload_n 1, 1) := by decide +kernel
theorem dX12_more_10 : decode cX12_more 10 = .ok (.ireturn, 1) := by decide +kernel
theorem dX12_orNone_0 : decode cX12_orNone 0 = .ok (.iload_n 0, 1) := by decide +kernel
theorem dX12_orNone_1 : decode cX12_orNone 1 = .ok (.iconst (-1), 1) := by decide +kernel
theorem dX12_orNone_2 : decode cX12_orNone 2 = .ok (.if_icmp .ne 8, 3) := by decide +kernel
theorem dX12_orNone_5 : decode cX12_orNone 5 = .ok (.ldc 67, 2) := by decide +kernel
theorem dX12_orNone_7 : decode cX12_orNone 7 = .ok (.goto 4, 3) := by decide +kernel
theorem dX12_orNone_10 : decode cX12_orNone 10 = .ok (.iload_n 0, 1) := by decide +kernel
theorem dX12_orNone_11 : decode cX12_orNone 11 = .ok (.ireturn, 1) := by decide +kernel
theorem dX12_isPerson_0 : decode cX12_isPerson 0 = .ok (.iload_n 1, 1) := by decide +kernel
theorem dX12_isPerson_1 : decode cX12_isPerson 1 = .ok (.iconst 0, 1) := by decide +kernel
theorem dX12_isPerson_2 : decode cX12_isPerson 2 = .ok (.aload_n 0, 1) := by decide +kernel
theorem dX12_isPerson_3 : decode cX12_isPerson 3 = .ok (.getfield 7, 3) := by decide +kernel
theorem dX12_isPerson_6 : decode cX12_isPerson 6 = .ok (.iconst 4, 1) := by decide +kernel
theorem dX12_isPerson_7 : decode cX12_isPerson 7 = .ok (.iaload, 1) := by decide +kernel
theorem dX12_isPerson_8 : decode cX12_isPerson 8 = .ok (.iconst 1, 1) := by decide +kernel
theorem dX12_isPerson_9 : decode cX12_isPerson 9 = .ok (.isub, 1) := by decide +kernel
theorem dX12_isPerson_10 : decode cX12_isPerson 10 = .ok (.invokestatic 68, 3) := by decide +kernel
theorem dX12_isPerson_13 : decode cX12_isPerson 13 = .ok (.ireturn, 1) := by decide +kernel
theorem dX12_isClient_0 : decode cX12_isClient 0 = .ok (.iload_n 1, 1) := by decide +kernel
theorem dX12_isClient_1 : decode cX12_isClient 1 = .ok (.iconst 0, 1) := by decide +kernel
theorem dX12_isClient_2 : decode cX12_isClient 2 = .ok (.aload_n 0, 1) := by decide +kernel
theorem dX12_isClient_3 : decode cX12_isClient 3 = .ok (.getfield 7, 3) := by decide +kernel
theorem dX12_isClient_6 : decode cX12_isClient 6 = .ok (.iconst 5, 1) := by decide +kernel
theorem dX12_isClient_7 : decode cX12_isClient 7 = .ok (.iaload, 1) := by decide +kernel
theorem dX12_isClient_8 : decode cX12_isClient 8 = .ok (.iconst 1, 1) := by decide +kernel
theorem dX12_isClient_9 : decode cX12_isClient 9 = .ok (.isub, 1) := by decide +kernel
theorem dX12_isClient_10 : decode cX12_isClient 10 = .ok (.invokestatic 68, 3) := by decide +kernel
theorem dX12_isClient_13 : decode cX12_isClient 13 = .ok (.ireturn, 1) := by decide +kernel
theorem dX12_isMatter_0 : decode cX12_isMatter 0 = .ok (.iload_n 1, 1) := by decide +kernel
theorem dX12_isMatter_1 : decode cX12_isMatter 1 = .ok (.iconst 0, 1) := by decide +kernel
theorem dX12_isMatter_2 : decode cX12_isMatter 2 = .ok (.aload_n 0, 1) := by decide +kernel
theorem dX12_isMatter_3 : decode cX12_isMatter 3 = .ok (.getfield 7, 3) := by decide +kernel
theorem dX12_isMatter_6 : decode cX12_isMatter 6 = .ok (.bipush 6, 2) := by decide +kernel
theorem dX12_isMatter_8 : decode cX12_isMatter 8 = .ok (.iaload, 1) := by decide +kernel
theorem dX12_isMatter_9 : decode cX12_isMatter 9 = .ok (.iconst 1, 1) := by decide +kernel
theorem dX12_isMatter_10 : decode cX12_isMatter 10 = .ok (.isub, 1) := by decide +kernel
theorem dX12_isMatter_11 : decode cX12_isMatter 11 = .ok (.invokestatic 68, 3) := by decide +kernel
theorem dX12_isMatter_14 : decode cX12_isMatter 14 = .ok (.ireturn, 1) := by decide +kernel
theorem dX12_isEntry_0 : decode cX12_isEntry 0 = .ok (.iload_n 1, 1) := by decide +kernel
theorem dX12_isEntry_1 : decode cX12_isEntry 1 = .ok (.iconst 0, 1) := by decide +kernel
theorem dX12_isEntry_2 : decode cX12_isEntry 2 = .ok (.aload_n 0, 1) := by decide +kernel
theorem dX12_isEntry_3 : decode cX12_isEntry 3 = .ok (.getfield 7, 3) := by decide +kernel
theorem dX12_isEntry_6 : decode cX12_isEntry 6 = .ok (.bipush 7, 2) := by decide +kernel
theorem dX12_isEntry_8 : decode cX12_isEntry 8 = .ok (.iaload, 1) := by decide +kernel
theorem dX12_isEntry_9 : decode cX12_isEntry 9 = .ok (.iconst 1, 1) := by decide +kernel
theorem dX12_isEntry_10 : decode cX12_isEntry 10 = .ok (.isub, 1) := by decide +kernel
theorem dX12_isEntry_11 : decode cX12_isEntry 11 = .ok (.invokestatic 68, 3) := by decide +kernel
theorem dX12_isEntry_14 : decode cX12_isEntry 14 = .ok (.ireturn, 1) := by decide +kernel
theorem dX12_isBill_0 : decode cX12_isBill 0 = .ok (.iload_n 1, 1) := by decide +kernel
theorem dX12_isBill_1 : decode cX12_isBill 1 = .ok (.iconst 0, 1) := by decide +kernel
theorem dX12_isBill_2 : decode cX12_isBill 2 = .ok (.aload_n 0, 1) := by decide +kernel
theorem dX12_isBill_3 : decode cX12_isBill 3 = .ok (.getfield 7, 3) := by decide +kernel
theorem dX12_isBill_6 : decode cX12_isBill 6 = .ok (.bipush 10, 2) := by decide +kernel
theorem dX12_isBill_8 : decode cX12_isBill 8 = .ok (.iaload, 1) := by decide +kernel
theorem dX12_isBill_9 : decode cX12_isBill 9 = .ok (.iconst 1, 1) := by decide +kernel
theorem dX12_isBill_10 : decode cX12_isBill 10 = .ok (.isub, 1) := by decide +kernel
theorem dX12_isBill_11 : decode cX12_isBill 11 = .ok (.invokestatic 68, 3) := by decide +kernel
theorem dX12_isBill_14 : decode cX12_isBill 14 = .ok (.ireturn, 1) := by decide +kernel
theorem dX12_isPast_0 : decode cX12_isPast 0 = .ok (.iload_n 1, 1) := by decide +kernel
theorem dX12_isPast_1 : decode cX12_isPast 1 = .ok (.iconst 0, 1) := by decide +kernel
theorem dX12_isPast_2 : decode cX12_isPast 2 = .ok (.aload_n 0, 1) := by decide +kernel
theorem dX12_isPast_3 : decode cX12_isPast 3 = .ok (.getfield 7, 3) := by decide +kernel
theorem dX12_isPast_6 : decode cX12_isPast 6 = .ok (.iconst 0, 1) := by decide +kernel
theorem dX12_isPast_7 : decode cX12_isPast 7 = .ok (.iaload, 1) := by decide +kernel
theorem dX12_isPast_8 : decode cX12_isPast 8 = .ok (.invokestatic 68, 3) := by decide +kernel
theorem dX12_isPast_11 : decode cX12_isPast 11 = .ok (.ireturn, 1) := by decide +kernel
theorem dX12_person_0 : decode cX12_person 0 = .ok (.iload_n 1, 1) := by decide +kernel
theorem dX12_person_1 : decode cX12_person 1 = .ok (.iconst 0, 1) := by decide +kernel
theorem dX12_person_2 : decode cX12_person 2 = .ok (.iconst 3, 1) := by decide +kernel
theorem dX12_person_3 : decode cX12_person 3 = .ok (.invokestatic 68, 3) := by decide +kernel
theorem dX12_person_6 : decode cX12_person 6 = .ok (.ifCond .eq 14, 3) := by decide +kernel
theorem dX12_person_9 : decode cX12_person 9 = .ok (.iload_n 2, 1) := by decide +kernel
theorem dX12_person_10 : decode cX12_person 10 = .ok (.iconst 1, 1) := by decide +kernel
theorem dX12_person_11 : decode cX12_person 11 = .ok (.sipush 999, 3) := by decide +kernel
theorem dX12_person_14 : decode cX12_person 14 = .ok (.invokestatic 68, 3) := by decide +kernel
theorem dX12_person_17 : decode cX12_person 17 = .ok (.ifCond .ne 6, 3) := by decide +kernel
theorem dX12_person_20 : decode cX12_person 20 = .ok (.ldc 72, 2) := by decide +kernel
theorem dX12_person_22 : decode cX12_person 22 = .ok (.ireturn, 1) := by decide +kernel
theorem dX12_person_23 : decode cX12_person 23 = .ok (.aload_n 0, 1) := by decide +kernel
theorem dX12_person_24 : decode cX12_person 24 = .ok (.getfield 7, 3) := by decide +kernel
theorem dX12_person_27 : decode cX12_person 27 = .ok (.iconst 4, 1) := by decide +kernel
theorem dX12_person_28 : decode cX12_person 28 = .ok (.iaload, 1) := by decide +kernel
theorem dX12_person_29 : decode cX12_person 29 = .ok (.bipush 8, 2) := by decide +kernel
theorem dX12_person_31 : decode cX12_person 31 = .ok (.if_icmp .ne 6, 3) := by decide +kernel
theorem dX12_person_34 : decode cX12_person 34 = .ok (.ldc 73, 2) := by decide +kernel
theorem dX12_person_36 : decode cX12_person 36 = .ok (.ireturn, 1) := by decide +kernel
theorem dX12_person_37 : decode cX12_person 37 = .ok (.bipush 20, 2) := by decide +kernel
theorem dX12_person_39 : decode cX12_person 39 = .ok (.iconst 3, 1) := by decide +kernel
theorem dX12_person_40 : decode cX12_person 40 = .ok (.aload_n 0, 1) := by decide +kernel
theorem dX12_person_41 : decode cX12_person 41 = .ok (.getfield 7, 3) := by decide +kernel
theorem dX12_person_44 : decode cX12_person 44 = .ok (.iconst 4, 1) := by decide +kernel
theorem dX12_person_45 : decode cX12_person 45 = .ok (.iaload, 1) := by decide +kernel
theorem dX12_person_46 : decode cX12_person 46 = .ok (.imul, 1) := by decide +kernel
theorem dX12_person_47 : decode cX12_person 47 = .ok (.iadd, 1) := by decide +kernel
theorem dX12_person_48 : decode cX12_person 48 = .ok (.istore_n 3, 1) := by decide +kernel
theorem dX12_person_49 : decode cX12_person 49 = .ok (.aload_n 0, 1) := by decide +kernel
theorem dX12_person_50 : decode cX12_person 50 = .ok (.getfield 7, 3) := by decide +kernel
theorem dX12_person_53 : decode cX12_person 53 = .ok (.iload_n 3, 1) := by decide +kernel
theorem dX12_person_54 : decode cX12_person 54 = .ok (.iload_n 1, 1) := by decide +kernel
theorem dX12_person_55 : decode cX12_person 55 = .ok (.iastore, 1) := by decide +kernel
theorem dX12_person_56 : decode cX12_person 56 = .ok (.aload_n 0, 1) := by decide +kernel
theorem dX12_person_57 : decode cX12_person 57 = .ok (.getfield 7, 3) := by decide +kernel
theorem dX12_person_60 : decode cX12_person 60 = .ok (.iload_n 3, 1) := by decide +kernel
theorem dX12_person_61 : decode cX12_person 61 = .ok (.iconst 1, 1) := by decide +kernel
theorem dX12_person_62 : decode cX12_person 62 = .ok (.iadd, 1) := by decide +kernel
theorem dX12_person_63 : decode cX12_person 63 = .ok (.iload_n 2, 1) := by decide +kernel
theorem dX12_person_64 : decode cX12_person 64 = .ok (.iastore, 1) := by decide +kernel
theorem dX12_person_65 : decode cX12_person 65 = .ok (.aload_n 0, 1) := by decide +kernel
theorem dX12_person_66 : decode cX12_person 66 = .ok (.getfield 7, 3) := by decide +kernel
theorem dX12_person_69 : decode cX12_person 69 = .ok (.iload_n 3, 1) := by decide +kernel
theorem dX12_person_70 : decode cX12_person 70 = .ok (.iconst 2, 1) := by decide +kernel
theorem dX12_person_71 : decode cX12_person 71 = .ok (.iadd, 1) := by decide +kernel
theorem dX12_person_72 : decode cX12_person 72 = .ok (.iconst 0, 1) := by decide +kernel
theorem dX12_person_73 : decode cX12_person 73 = .ok (.iastore, 1) := by decide +kernel
theorem dX12_person_74 : decode cX12_person 74 = .ok (.aload_n 0, 1) := by decide +kernel
theorem dX12_person_75 : decode cX12_person 75 = .ok (.getfield 7, 3) := by decide +kernel
theorem dX12_person_78 : decode cX12_person 78 = .ok (.iconst 4, 1) := by decide +kernel
theorem dX12_person_79 : decode cX12_person 79 = .ok (.dup2, 1) := by decide +kernel
theorem dX12_person_80 : decode cX12_person 80 = .ok (.iaload, 1) := by decide +kernel
theorem dX12_person_81 : decode cX12_person 81 = .ok (.iconst 1, 1) := by decide +kernel
theorem dX12_person_82 : decode cX12_person 82 = .ok (.iadd, 1) := by decide +kernel
theorem dX12_person_83 : decode cX12_person 83 = .ok (.iastore, 1) := by decide +kernel
theorem dX12_person_84 : decode cX12_person 84 = .ok (.aload_n 0, 1) := by decide +kernel
theorem dX12_person_85 : decode cX12_person 85 = .ok (.getfield 7, 3) := by decide +kernel
theorem dX12_person_88 : decode cX12_person 88 = .ok (.iconst 4, 1) := by decide +kernel
theorem dX12_person_89 : decode cX12_person 89 = .ok (.iaload, 1) := by decide +kernel
theorem dX12_person_90 : decode cX12_person 90 = .ok (.iconst 1, 1) := by decide +kernel
theorem dX12_person_91 : decode cX12_person 91 = .ok (.isub, 1) := by decide +kernel
theorem dX12_person_92 : decode cX12_person 92 = .ok (.ireturn, 1) := by decide +kernel
theorem dX12_is_0 : decode cX12_is 0 = .ok (.aload_n 0, 1) := by decide +kernel
theorem dX12_is_1 : decode cX12_is 1 = .ok (.iload_n 1, 1) := by decide +kernel
theorem dX12_is_2 : decode cX12_is 2 = .ok (.invokevirtual 74, 3) := by decide +kernel
theorem dX12_is_5 : decode cX12_is 5 = .ok (.ifCond .eq 12, 3) := by decide +kernel
theorem dX12_is_8 : decode cX12_is 8 = .ok (.iload_n 2, 1) := by decide +kernel
theorem dX12_is_9 : decode cX12_is 9 = .ok (.iconst 0, 1) := by decide +kernel
theorem dX12_is_10 : decode cX12_is 10 = .ok (.iconst 3, 1) := by decide +kernel
theorem dX12_is_11 : decode cX12_is 11 = .ok (.invokestatic 68, 3) := by decide +kernel
theorem dX12_is_14 : decode cX12_is 14 = .ok (.ifCond .ne 6, 3) := by decide +kernel
theorem dX12_is_17 : decode cX12_is 17 = .ok (.ldc 72, 2) := by decide +kernel
theorem dX12_is_19 : decode cX12_is 19 = .ok (.ireturn, 1) := by decide +kernel
theorem dX12_is_20 : decode cX12_is 20 = .ok (.aload_n 0, 1) := by decide +kernel
theorem dX12_is_21 : decode cX12_is 21 = .ok (.getfield 7, 3) := by decide +kernel
theorem dX12_is_24 : decode cX12_is 24 = .ok (.bipush 20, 2) := by decide +kernel
theorem dX12_is_26 : decode cX12_is 26 = .ok (.iconst 3, 1) := by decide +kernel
theorem dX12_is_27 : decode cX12_is 27 = .ok (.iload_n 1, 1) := by decide +kernel
theorem dX12_is_28 : decode cX12_is 28 = .ok (.imul, 1) := by decide +kernel
theorem dX12_is_29 : decode cX12_is 29 = .ok (.iadd, 1) := by decide +kernel
theorem dX12_is_30 : decode cX12_is 30 = .ok (.iaload, 1) := by decide +kernel
theorem dX12_is_31 : decode cX12_is 31 = .ok (.istore_n 3, 1) := by decide +kernel
theorem dX12_is_32 : decode cX12_is 32 = .ok (.iload_n 2, 1) := by decide +kernel
theorem dX12_is_33 : decode cX12_is 33 = .ok (.ifCond .eq 18, 3) := by decide +kernel
theorem dX12_is_36 : decode cX12_is 36 = .ok (.iload_n 3, 1) := by decide +kernel
theorem dX12_is_37 : decode cX12_is 37 = .ok (.iload_n 2, 1) := by decide +kernel
theorem dX12_is_38 : decode cX12_is 38 = .ok (.if_icmp .eq 13, 3) := by decide +kernel
theorem dX12_is_41 : decode cX12_is 41 = .ok (.iload_n 3, 1) := by decide +kernel
theorem dX12_is_42 : decode cX12_is 42 = .ok (.iconst 2, 1) := by decide +kernel
theorem dX12_is_43 : decode cX12_is 43 = .ok (.if_icmp .ne 12, 3) := by decide +kernel
theorem dX12_is_46 : decode cX12_is 46 = .ok (.iload_n 2, 1) := by decide +kernel
theorem dX12_is_47 : decode cX12_is 47 = .ok (.iconst 1, 1) := by decide +kernel
theorem dX12_is_48 : decode cX12_is 48 = .ok (.if_icmp .ne 7, 3) := by decide +kernel
theorem dX12_is_51 : decode cX12_is 51 = .ok (.iconst 1, 1) := by decide +kernel
theorem dX12_is_52 : decode cX12_is 52 = .ok (.goto 4, 3) := by decide +kernel
theorem dX12_is_55 : decode cX12_is 55 = .ok (.iconst 0, 1) := by decide +kernel
theorem dX12_is_56 : decode cX12_is 56 = .ok (.ireturn, 1) := by decide +kernel
theorem dX12_client_0 : decode cX12_client 0 = .ok (.aload_n 0, 1) := by decide +kernel
theorem dX12_client_1 : decode cX12_client 1 = .ok (.getfield 7, 3) := by decide +kernel
theorem dX12_client_4 : decode cX12_client 4 = .ok (.iconst 5, 1) := by decide +kernel
theorem dX12_client_5 : decode cX12_client 5 = .ok (.iaload, 1) := by decide +kernel
theorem dX12_client_6 : decode cX12_client 6 = .ok (.iconst 5, 1) := by decide +kernel
theorem dX12_client_7 : decode cX12_client 7 = .ok (.if_icmp .ne 6, 3) := by decide +kernel
theorem dX12_client_10 : decode cX12_client 10 = .ok (.ldc 73, 2) := by decide +kernel
theorem dX12_client_12 : decode cX12_client 12 = .ok (.ireturn, 1) := by decide +kernel
theorem dX12_client_13 : decode cX12_client 13 = .ok (.aload_n 0, 1) := by decide +kernel
theorem dX12_client_14 : decode cX12_client 14 = .ok (.getfield 7, 3) := by decide +kernel
theorem dX12_client_17 : decode cX12_client 17 = .ok (.bipush 44, 2) := by decide +kernel
theorem dX12_client_19 : decode cX12_client 19 = .ok (.aload_n 0, 1) := by decide +kernel
theorem dX12_client_20 : decode cX12_client 20 = .ok (.getfield 7, 3) := by decide +kernel
theorem dX12_client_23 : decode cX12_client 23 = .ok (.iconst 5, 1) := by decide +kernel
theorem dX12_client_24 : decode cX12_client 24 = .ok (.iaload, 1) := by decide +kernel
theorem dX12_client_25 : decode cX12_client 25 = .ok (.iadd, 1) := by decide +kernel
theorem dX12_client_26 : decode cX12_client 26 = .ok (.iconst 0, 1) := by decide +kernel
theorem dX12_client_27 : decode cX12_client 27 = .ok (.iastore, 1) := by decide +kernel
theorem dX12_client_28 : decode cX12_client 28 = .ok (.aload_n 0, 1) := by decide +kernel
theorem dX12_client_29 : decode cX12_client 29 = .ok (.getfield 7, 3) := by decide +kernel
theorem dX12_client_32 : decode cX12_client 32 = .ok (.iconst 5, 1) := by decide +kernel
theorem dX12_client_33 : decode cX12_client 33 = .ok (.dup2, 1) := by decide +kernel
theorem dX12_client_34 : decode cX12_client 34 = .ok (.iaload, 1) := by decide +kernel
theorem dX12_client_35 : decode cX12_client 35 = .ok (.iconst 1, 1) := by decide +kernel
theorem dX12_client_36 : decode cX12_client 36 = .ok (.iadd, 1) := by decide +kernel
theorem dX12_client_37 : decode cX12_client 37 = .ok (.iastore, 1) := by decide +kernel
theorem dX12_client_38 : decode cX12_client 38 = .ok (.aload_n 0, 1) := by decide +kernel
theorem dX12_client_39 : decode cX12_client 39 = .ok (.getfield 7, 3) := by decide +kernel
theorem dX12_client_42 : decode cX12_client 42 = .ok (.iconst 5, 1) := by decide +kernel
theorem dX12_client_43 : decode cX12_client 43 = .ok (.iaload, 1) := by decide +kernel
theorem dX12_client_44 : decode cX12_client 44 = .ok (.iconst 1, 1) := by decide +kernel
theorem dX12_client_45 : decode cX12_client 45 = .ok (.isub, 1) := by decide +kernel
theorem dX12_client_46 : decode cX12_client 46 = .ok (.ireturn, 1) := by decide +kernel
theorem dX12_matter_0 : decode cX12_matter 0 = .ok (.iload_n 1, 1) := by decide +kernel
theorem dX12_matter_1 : decode cX12_matter 1 = .ok (.iconst 0, 1) := by decide +kernel
theorem dX12_matter_2 : decode cX12_matter 2 = .ok (.iconst 3, 1) := by decide +kernel
theorem dX12_matter_3 : decode cX12_matter 3 = .ok (.invokestatic 68, 3) := by decide +kernel
theorem dX12_matter_6 : decode cX12_matter 6 = .ok (.ifCond .eq 21, 3) := by decide +kernel
theorem dX12_matter_9 : decode cX12_matter 9 = .ok (.aload_n 0, 1) := by decide +kernel
theorem dX12_matter_10 : decode cX12_matter 10 = .ok (.iload_n 2, 1) := by decide +kernel
theorem dX12_matter_11 : decode cX12_matter 11 = .ok (.invokevirtual 78, 3) := by decide +kernel
theorem dX12_matter_14 : decode cX12_matter 14 = .ok (.ifCond .eq 13, 3) := by decide +kernel
theorem dX12_matter_17 : decode cX12_matter 17 = .ok (.iload_n 3, 1) := by decide +kernel
theorem dX12_matter_18 : decode cX12_matter 18 = .ok (.iconst 0, 1) := by decide +kernel
theorem dX12_matter_19 : decode cX12_matter 19 = .ok (.ldc 81, 2) := by decide +kernel
theorem dX12_matter_21 : decode cX12_matter 21 = .ok (.invokestatic 68, 3) := by decide +kernel
theorem dX12_matter_24 : decode cX12_matter 24 = .ok (.ifCond .ne 6, 3) := by decide +kernel
theorem dX12_matter_27 : decode cX12_matter 27 = .ok (.ldc 72, 2) := by decide +kernel
theorem dX12_matter_29 : decode cX12_matter 29 = .ok (.ireturn, 1) := by decide +kernel
theorem dX12_matter_30 : decode cX12_matter 30 = .ok (.aload_n 0, 1) := by decide +kernel
theorem dX12_matter_31 : decode cX12_matter 31 = .ok (.getfield 7, 3) := by decide +kernel
theorem dX12_matter_34 : decode cX12_matter 34 = .ok (.bipush 6, 2) := by decide +kernel
theorem dX12_matter_36 : decode cX12_matter 36 = .ok (.iaload, 1) := by decide +kernel
theorem dX12_matter_37 : decode cX12_matter 37 = .ok (.bipush 10, 2) := by decide +kernel
theorem dX12_matter_39 : decode cX12_matter 39 = .ok (.if_icmp .ne 6, 3) := by decide +kernel
theorem dX12_matter_42 : decode cX12_matter 42 = .ok (.ldc 73, 2) := by decide +kernel
theorem dX12_matter_44 : decode cX12_matter 44 = .ok (.ireturn, 1) := by decide +kernel
theorem dX12_matter_45 : decode cX12_matter 45 = .ok (.bipush 50, 2) := by decide +kernel
theorem dX12_matter_47 : decode cX12_matter 47 = .ok (.bipush 20, 2) := by decide +kernel
theorem dX12_matter_49 : decode cX12_matter 49 = .ok (.aload_n 0, 1) := by decide +kernel
theorem dX12_matter_50 : decode cX12_matter 50 = .ok (.getfield 7, 3) := by decide +kernel
theorem dX12_matter_53 : decode cX12_matter 53 = .ok (.bipush 6, 2) := by decide +kernel
theorem dX12_matter_55 : decode cX12_matter 55 = .ok (.iaload, 1) := by decide +kernel
theorem dX12_matter_56 : decode cX12_matter 56 = .ok (.imul, 1) := by decide +kernel
theorem dX12_matter_57 : decode cX12_matter 57 = .ok (.iadd, 1) := by decide +kernel
theorem dX12_matter_58 : decode cX12_matter 58 = .ok (.istore 4, 2) := by decide +kernel
theorem dX12_matter_60 : decode cX12_matter 60 = .ok (.iconst 0, 1) := by decide +kernel
theorem dX12_matter_61 : decode cX12_matter 61 = .ok (.istore 5, 2) := by decide +kernel
theorem dX12_matter_63 : decode cX12_matter 63 = .ok (.iload 5, 2) := by decide +kernel
theorem dX12_matter_65 : decode cX12_matter 65 = .ok (.bipush 20, 2) := by decide +kernel
theorem dX12_matter_67 : decode cX12_matter 67 = .ok (.if_icmp .ge 20, 3) := by decide +kernel
theorem dX12_matter_70 : decode cX12_matter 70 = .ok (.aload_n 0, 1) := by decide +kernel
theorem dX12_matter_71 : decode cX12_matter 71 = .ok (.getfield 7, 3) := by decide +kernel
theorem dX12_matter_74 : decode cX12_matter 74 = .ok (.iload 4, 2) := by decide +kernel
theorem dX12_matter_76 : decode cX12_matter 76 = .ok (.iload 5, 2) := by decide +kernel
theorem dX12_matter_78 : decode cX12_matter 78 = .ok (.iadd, 1) := by decide +kernel
theorem dX12_matter_79 : decode cX12_matter 79 = .ok (.iconst 0, 1) := by decide +kernel
theorem dX12_matter_80 : decode cX12_matter 80 = .ok (.iastore, 1) := by decide +kernel
theorem dX12_matter_81 : decode cX12_matter 81 = .ok (.iinc 5 1, 3) := by decide +kernel
theorem dX12_matter_84 : decode cX12_matter 84 = .ok (.goto (-21), 3) := by decide +kernel
theorem dX12_matter_87 : decode cX12_matter 87 = .ok (.aload_n 0, 1) := by decide +kernel
theorem dX12_matter_88 : decode cX12_matter 88 = .ok (.getfield 7, 3) := by decide +kernel
theorem dX12_matter_91 : decode cX12_matter 91 = .ok (.iload 4, 2) := by decide +kernel
theorem dX12_matter_93 : decode cX12_matter 93 = .ok (.iload_n 1, 1) := by decide +kernel
theorem dX12_matter_94 : decode cX12_matter 94 = .ok (.iastore, 1) := by decide +kernel
theorem dX12_matter_95 : decode cX12_matter 95 = .ok (.aload_n 0, 1) := by decide +kernel
theorem dX12_matter_96 : decode cX12_matter 96 = .ok (.getfield 7, 3) := by decide +kernel
theorem dX12_matter_99 : decode cX12_matter 99 = .ok (.iload 4, 2) := by decide +kernel
theorem dX12_matter_101 : decode cX12_matter 101 = .ok (.iconst 1, 1) := by decide +kernel
theorem dX12_matter_102 : decode cX12_matter 102 = .ok (.iadd, 1) := by decide +kernel
theorem dX12_matter_103 : decode cX12_matter 103 = .ok (.iload_n 2, 1) := by decide +kernel
theorem dX12_matter_104 : decode cX12_matter 104 = .ok (.iastore, 1) := by decide +kernel
theorem dX12_matter_105 : decode cX12_matter 105 = .ok (.aload_n 0, 1) := by decide +kernel
theorem dX12_matter_106 : decode cX12_matter 106 = .ok (.getfield 7, 3) := by decide +kernel
theorem dX12_matter_109 : decode cX12_matter 109 = .ok (.iload 4, 2) := by decide +kernel
theorem dX12_matter_111 : decode cX12_matter 111 = .ok (.iconst 2, 1) := by decide +kernel
theorem dX12_matter_112 : decode cX12_matter 112 = .ok (.iadd, 1) := by decide +kernel
theorem dX12_matter_113 : decode cX12_matter 113 = .ok (.iload_n 3, 1) := by decide +kernel
theorem dX12_matter_114 : decode cX12_matter 114 = .ok (.iastore, 1) := by decide +kernel
theorem dX12_matter_115 : decode cX12_matter 115 = .ok (.aload_n 0, 1) := by decide +kernel
theorem dX12_matter_116 : decode cX12_matter 116 = .ok (.getfield 7, 3) := by decide +kernel
theorem dX12_matter_119 : decode cX12_matter 119 = .ok (.iload 4, 2) := by decide +kernel
theorem dX12_matter_121 : decode cX12_matter 121 = .ok (.bipush 10, 2) := by decide +kernel
theorem dX12_matter_123 : decode cX12_matter 123 = .ok (.iadd, 1) := by decide +kernel
theorem dX12_matter_124 : decode cX12_matter 124 = .ok (.iconst 1, 1) := by decide +kernel
theorem dX12_matter_125 : decode cX12_matter 125 = .ok (.iastore, 1) := by decide +kernel
theorem dX12_matter_126 : decode cX12_matter 126 = .ok (.aload_n 0, 1) := by decide +kernel
theorem dX12_matter_127 : decode cX12_matter 127 = .ok (.getfield 7, 3) := by decide +kernel
theorem dX12_matter_130 : decode cX12_matter 130 = .ok (.iload 4, 2) := by decide +kernel
theorem dX12_matter_132 : decode cX12_matter 132 = .ok (.bipush 11, 2) := by decide +kernel
theorem dX12_matter_134 : decode cX12_matter 134 = .ok (.iadd, 1) := by decide +kernel
theorem dX12_matter_135 : decode cX12_matter 135 = .ok (.iload_n 2, 1) := by decide +kernel
theorem dX12_matter_136 : decode cX12_matter 136 = .ok (.iastore, 1) := by decide +kernel
theorem dX12_matter_137 : decode cX12_matter 137 = .ok (.aload_n 0, 1) := by decide +kernel
theorem dX12_matter_138 : decode cX12_matter 138 = .ok (.getfield 7, 3) := by decide +kernel
theorem dX12_matter_141 : decode cX12_matter 141 = .ok (.iload 4, 2) := by decide +kernel
theorem dX12_matter_143 : decode cX12_matter 143 = .ok (.bipush 14, 2) := by decide +kernel
theorem dX12_matter_145 : decode cX12_matter 145 = .ok (.iadd, 1) := by decide +kernel
theorem dX12_matter_146 : decode cX12_matter 146 = .ok (.iconst 1, 1) := by decide +kernel
theorem dX12_matter_147 : decode cX12_matter 147 = .ok (.iastore, 1) := by decide +kernel
theorem dX12_matter_148 : decode cX12_matter 148 = .ok (.iconst 1, 1) := by decide +kernel
theorem dX12_matter_149 : decode cX12_matter 149 = .ok (.istore 5, 2) := by decide +kernel
theorem dX12_matter_151 : decode cX12_matter 151 = .ok (.iload 5, 2) := by decide +kernel
theorem dX12_matter_153 : decode cX12_matter 153 = .ok (.bipush 6, 2) := by decide +kernel
theorem dX12_matter_155 : decode cX12_matter 155 = .ok (.if_icmp .ge 22, 3) := by decide +kernel
theorem dX12_matter_158 : decode cX12_matter 158 = .ok (.aload_n 0, 1) := by decide +kernel
theorem dX12_matter_159 : decode cX12_matter 159 = .ok (.getfield 7, 3) := by decide +kernel
theorem dX12_matter_162 : decode cX12_matter 162 = .ok (.iload 4, 2) := by decide +kernel
theorem dX12_matter_164 : decode cX12_matter 164 = .ok (.iconst 4, 1) := by decide +kernel
theorem dX12_matter_165 : decode cX12_matter 165 = .ok (.iadd, 1) := by decide +kernel
theorem dX12_matter_166 : decode cX12_matter 166 = .ok (.iload 5, 2) := by decide +kernel
theorem dX12_matter_168 : decode cX12_matter 168 = .ok (.iadd, 1) := by decide +kernel
theorem dX12_matter_169 : decode cX12_matter 169 = .ok (.iconst (-1), 1) := by decide +kernel
theorem dX12_matter_170 : decode cX12_matter 170 = .ok (.iastore, 1) := by decide +kernel
theorem dX12_matter_171 : decode cX12_matter 171 = .ok (.iinc 5 1, 3) := by decide +kernel
theorem dX12_matter_174 : decode cX12_matter 174 = .ok (.goto (-23), 3) := by decide +kernel
theorem dX12_matter_177 : decode cX12_matter 177 = .ok (.aload_n 0, 1) := by decide +kernel
theorem dX12_matter_178 : decode cX12_matter 178 = .ok (.getfield 7, 3) := by decide +kernel
theorem dX12_matter_181 : decode cX12_matter 181 = .ok (.bipush 6, 2) := by decide +kernel
theorem dX12_matter_183 : decode cX12_matter 183 = .ok (.dup2, 1) := by decide +kernel
theorem dX12_matter_184 : decode cX12_matter 184 = .ok (.iaload, 1) := by decide +kernel
theorem dX12_matter_185 : decode cX12_matter 185 = .ok (.iconst 1, 1) := by decide +kernel
theorem dX12_matter_186 : decode cX12_matter 186 = .ok (.iadd, 1) := by decide +kernel
theorem dX12_matter_187 : decode cX12_matter 187 = .ok (.iastore, 1) := by decide +kernel
theorem dX12_matter_188 : decode cX12_matter 188 = .ok (.aload_n 0, 1) := by decide +kernel
theorem dX12_matter_189 : decode cX12_matter 189 = .ok (.getfield 7, 3) := by decide +kernel
theorem dX12_matter_192 : decode cX12_matter 192 = .ok (.bipush 6, 2) := by decide +kernel
theorem dX12_matter_194 : decode cX12_matter 194 = .ok (.iaload, 1) := by decide +kernel
theorem dX12_matter_195 : decode cX12_matter 195 = .ok (.iconst 1, 1) := by decide +kernel
theorem dX12_matter_196 : decode cX12_matter 196 = .ok (.isub, 1) := by decide +kernel
theorem dX12_matter_197 : decode cX12_matter 197 = .ok (.ireturn, 1) := by decide +kernel
theorem dX12_isOf_0 : decode cX12_isOf 0 = .ok (.aload_n 0, 1) := by decide +kernel
theorem dX12_isOf_1 : decode cX12_isOf 1 = .ok (.iload_n 1, 1) := by decide +kernel
theorem dX12_isOf_2 : decode cX12_isOf 2 = .ok (.invokevirtual 82, 3) := by decide +kernel
theorem dX12_isOf_5 : decode cX12_isOf 5 = .ok (.ifCond .eq 12, 3) := by decide +kernel
theorem dX12_isOf_8 : decode cX12_isOf 8 = .ok (.iload_n 2, 1) := by decide +kernel
theorem dX12_isOf_9 : decode cX12_isOf 9 = .ok (.iconst 0, 1) := by decide +kernel
theorem dX12_isOf_10 : decode cX12_isOf 10 = .ok (.iconst 3, 1) := by decide +kernel
theorem dX12_isOf_11 : decode cX12_isOf 11 = .ok (.invokestatic 68, 3) := by decide +kernel
theorem dX12_isOf_14 : decode cX12_isOf 14 = .ok (.ifCond .ne 6, 3) := by decide +kernel
theorem dX12_isOf_17 : decode cX12_isOf 17 = .ok (.ldc 72, 2) := by decide +kernel
theorem dX12_isOf_19 : decode cX12_isOf 19 = .ok (.ireturn, 1) := by decide +kernel
theorem dX12_isOf_20 : decode cX12_isOf 20 = .ok (.aload_n 0, 1) := by decide +kernel
theorem dX12_isOf_21 : decode cX12_isOf 21 = .ok (.getfield 7, 3) := by decide +kernel
theorem dX12_isOf_24 : decode cX12_isOf 24 = .ok (.bipush 50, 2) := by decide +kernel
theorem dX12_isOf_26 : decode cX12_isOf 26 = .ok (.bipush 20, 2) := by decide +kernel
theorem dX12_isOf_28 : decode cX12_isOf 28 = .ok (.iload_n 1, 1) := by decide +kernel
theorem dX12_isOf_29 : decode cX12_isOf 29 = .ok (.imul, 1) := by decide +kernel
theorem dX12_isOf_30 : decode cX12_isOf 30 = .ok (.iadd, 1) := by decide +kernel
theorem dX12_isOf_31 : decode cX12_isOf 31 = .ok (.iaload, 1) := by decide +kernel
theorem dX12_isOf_32 : decode cX12_isOf 32 = .ok (.istore_n 3, 1) := by decide +kernel
theorem dX12_isOf_33 : decode cX12_isOf 33 = .ok (.iload_n 2, 1) := by decide +kernel
theorem dX12_isOf_34 : decode cX12_isOf 34 = .ok (.ifCond .eq 18, 3) := by decide +kernel
theorem dX12_isOf_37 : decode cX12_isOf 37 = .ok (.iload_n 3, 1) := by decide +kernel
theorem dX12_isOf_38 : decode cX12_isOf 38 = .ok (.iload_n 2, 1) := by decide +kernel
theorem dX12_isOf_39 : decode cX12_isOf 39 = .ok (.if_icmp .eq 13, 3) := by decide +kernel
theorem dX12_isOf_42 : decode cX12_isOf 42 = .ok (.iload_n 3, 1) := by decide +kernel
theorem dX12_isOf_43 : decode cX12_isOf 43 = .ok (.iconst 3, 1) := by decide +kernel
theorem dX12_isOf_44 : decode cX12_isOf 44 = .ok (.if_icmp .ne 12, 3) := by decide +kernel
theorem dX12_isOf_47 : decode cX12_isOf 47 = .ok (.iload_n 2, 1) := by decide +kernel
theorem dX12_isOf_48 : decode cX12_isOf 48 = .ok (.iconst 2, 1) := by decide +kernel
theorem dX12_isOf_49 : decode cX12_isOf 49 = .ok (.if_icmp .ne 7, 3) := by decide +kernel
theorem dX12_isOf_52 : decode cX12_isOf 52 = .ok (.iconst 1, 1) := by decide +kernel
theorem dX12_isOf_53 : decode cX12_isOf 53 = .ok (.goto 4, 3) := by decide +kernel
theorem dX12_isOf_56 : decode cX12_isOf 56 = .ok (.iconst 0, 1) := by decide +kernel
theorem dX12_isOf_57 : decode cX12_isOf 57 = .ok (.ireturn, 1) := by decide +kernel
theorem dX12_isBilled_0 : decode cX12_isBilled 0 = .ok (.iconst 0, 1) := by decide +kernel
theorem dX12_isBilled_1 : decode cX12_isBilled 1 = .ok (.istore_n 2, 1) := by decide +kernel
theorem dX12_isBilled_2 : decode cX12_isBilled 2 = .ok (.iconst 0, 1) := by decide +kernel
theorem dX12_isBilled_3 : decode cX12_isBilled 3 = .ok (.istore_n 3, 1) := by decide +kernel
theorem dX12_isBilled_4 : decode cX12_isBilled 4 = .ok (.iload_n 3, 1) := by decide +kernel
theorem dX12_isBilled_5 : decode cX12_isBilled 5 = .ok (.aload_n 0, 1) := by decide +kernel
theorem dX12_isBilled_6 : decode cX12_isBilled 6 = .ok (.getfield 7, 3) := by decide +kernel
theorem dX12_isBilled_9 : decode cX12_isBilled 9 = .ok (.bipush 10, 2) := by decide +kernel
theorem dX12_isBilled_11 : decode cX12_isBilled 11 = .ok (.iaload, 1) := by decide +kernel
theorem dX12_isBilled_12 : decode cX12_isBilled 12 = .ok (.if_icmp .ge 36, 3) := by decide +kernel
theorem dX12_isBilled_15 : decode cX12_isBilled 15 = .ok (.iload_n 2, 1) := by decide +kernel
theorem dX12_isBilled_16 : decode cX12_isBilled 16 = .ok (.ifCond .ne 20, 3) := by decide +kernel
theorem dX12_isBilled_19 : decode cX12_isBilled 19 = .ok (.aload_n 0, 1) := by decide +kernel
theorem dX12_isBilled_20 : decode cX12_isBilled 20 = .ok (.getfield 7, 3) := by decide +kernel
theorem dX12_isBilled_23 : decode cX12_isBilled 23 = .ok (.sipush 1630, 3) := by decide +kernel
theorem dX12_isBilled_26 : decode cX12_isBilled 26 = .ok (.bipush 12, 2) := by decide +kernel
theorem dX12_isBilled_28 : decode cX12_isBilled 28 = .ok (.iload_n 3, 1) := by decide +kernel
theorem dX12_isBilled_29 : decode cX12_isBilled 29 = .ok (.imul, 1) := by decide +kernel
theorem dX12_isBilled_30 : decode cX12_isBilled 30 = .ok (.iadd, 1) := by decide +kernel
theorem dX12_isBilled_31 : decode cX12_isBilled 31 = .ok (.iaload, 1) := by decide +kernel
theorem dX12_isBilled_32 : decode cX12_isBilled 32 = .ok (.iload_n 1, 1) := by decide +kernel
theorem dX12_isBilled_33 : decode cX12_isBilled 33 = .ok (.if_icmp .ne 7, 3) := by decide +kernel
theorem dX12_isBilled_36 : decode cX12_isBilled 36 = .ok (.iconst 1, 1) := by decide +kernel
theorem dX12_isBilled_37 : decode cX12_isBilled 37 = .ok (.goto 4, 3) := by decide +kernel
theorem dX12_isBilled_40 : decode cX12_isBilled 40 = .ok (.iconst 0, 1) := by decide +kernel
theorem dX12_isBilled_41 : decode cX12_isBilled 41 = .ok (.istore_n 2, 1) := by decide +kernel
theorem dX12_isBilled_42 : decode cX12_isBilled 42 = .ok (.iinc 3 1, 3) := by decide +kernel
theorem dX12_isBilled_45 : decode cX12_isBilled 45 = .ok (.goto (-41), 3) := by decide +kernel
theorem dX12_isBilled_48 : decode cX12_isBilled 48 = .ok (.iload_n 2, 1) := by decide +kernel
theorem dX12_isBilled_49 : decode cX12_isBilled 49 = .ok (.ireturn, 1) := by decide +kernel
theorem dX12_isShare_0 : decode cX12_isShare 0 = .ok (.iload_n 1, 1) := by decide +kernel
theorem dX12_isShare_1 : decode cX12_isShare 1 = .ok (.ifCond .lt 25, 3) := by decide +kernel
theorem dX12_isShare_4 : decode cX12_isShare 4 = .ok (.aload_n 0, 1) := by decide +kernel
theorem dX12_isShare_5 : decode cX12_isShare 5 = .ok (.iload_n 1, 1) := by decide +kernel
theorem dX12_isShare_6 : decode cX12_isShare 6 = .ok (.bipush 100, 2) := by decide +kernel
theorem dX12_isShare_8 : decode cX12_isShare 8 = .ok (.idiv, 1) := by decide +kernel
theorem dX12_isShare_9 : decode cX12_isShare 9 = .ok (.invokevirtual 78, 3) := by decide +kernel
theorem dX12_isShare_12 : decode cX12_isShare 12 = .ok (.ifCond .eq 14, 3) := by decide +kernel
theorem dX12_isShare_15 : decode cX12_isShare 15 = .ok (.iload_n 1, 1) := by decide +kernel
theorem dX12_isShare_16 : decode cX12_isShare 16 = .ok (.bipush 100, 2) := by decide +kernel
theorem dX12_isShare_18 : decode cX12_isShare 18 = .ok (.irem, 1) := by decide +kernel
theorem dX12_isShare_19 : decode cX12_isShare 19 = .ok (.ifCond .le 7, 3) := by decide +kernel
theorem dX12_isShare_22 : decode cX12_isShare 22 = .ok (.iconst 1, 1) := by decide +kernel
theorem dX12_isShare_23 : decode cX12_isShare 23 = .ok (.goto 4, 3) := by decide +kernel
theorem dX12_isShare_26 : decode cX12_isShare 26 = .ok (.iconst 0, 1) := by decide +kernel
theorem dX12_isShare_27 : decode cX12_isShare 27 = .ok (.ireturn, 1) := by decide +kernel
theorem dX12_payers_0 : decode cX12_payers 0 = .ok (.aload_n 0, 1) := by decide +kernel
theorem dX12_payers_1 : decode cX12_payers 1 = .ok (.iload_n 1, 1) := by decide +kernel
theorem dX12_payers_2 : decode cX12_payers 2 = .ok (.invokevirtual 82, 3) := by decide +kernel
theorem dX12_payers_5 : decode cX12_payers 5 = .ok (.ifCond .eq 58, 3) := by decide +kernel
theorem dX12_payers_8 : decode cX12_payers 8 = .ok (.aload_n 0, 1) := by decide +kernel
theorem dX12_payers_9 : decode cX12_payers 9 = .ok (.iload_n 2, 1) := by decide +kernel
theorem dX12_payers_10 : decode cX12_payers 10 = .ok (.invokevirtual 85, 3) := by decide +kernel
theorem dX12_payers_13 : decode cX12_payers 13 = .ok (.ifCond .eq 50, 3) := by decide +kernel
theorem dX12_payers_16 : decode cX12_payers 16 = .ok (.iload_n 3, 1) := by decide +kernel
theorem dX12_payers_17 : decode cX12_payers 17 = .ok (.ldc 67, 2) := by decide +kernel
theorem dX12_payers_19 : decode cX12_payers 19 = .ok (.if_icmp .eq 11, 3) := by decide +kernel
theorem dX12_payers_22 : decode cX12_payers 22 = .ok (.aload_n 0, 1) := by decide +kernel
theorem dX12_payers_23 : decode cX12_payers 23 = .ok (.iload_n 3, 1) := by decide +kernel
theorem dX12_payers_24 : decode cX12_payers 24 = .ok (.invokevirtual 85, 3) := by decide +kernel
theorem dX12_payers_27 : decode cX12_payers 27 = .ok (.ifCond .eq 36, 3) := by decide +kernel
theorem dX12_payers_30 : decode cX12_payers 30 = .ok (.iload 4, 2) := by decide +kernel
theorem dX12_payers_32 : decode cX12_payers 32 = .ok (.ldc 67, 2) := by decide +kernel
theorem dX12_payers_34 : decode cX12_payers 34 = .ok (.if_icmp .eq 12, 3) := by decide +kernel
theorem dX12_payers_37 : decode cX12_payers 37 = .ok (.aload_n 0, 1) := by decide +kernel
theorem dX12_payers_38 : decode cX12_payers 38 = .ok (.iload 4, 2) := by decide +kernel
theorem dX12_payers_40 : decode cX12_payers 40 = .ok (.invokevirtual 85, 3) := by decide +kernel
theorem dX12_payers_43 : decode cX12_payers 43 = .ok (.ifCond .eq 20, 3) := by decide +kernel
theorem dX12_payers_46 : decode cX12_payers 46 = .ok (.iload_n 3, 1) := by decide +kernel
theorem dX12_payers_47 : decode cX12_payers 47 = .ok (.ldc 67, 2) := by decide +kernel
theorem dX12_payers_49 : decode cX12_payers 49 = .ok (.if_icmp .ne 10, 3) := by decide +kernel
theorem dX12_payers_52 : decode cX12_payers 52 = .ok (.iload 4, 2) := by decide +kernel
theorem dX12_payers_54 : decode cX12_payers 54 = .ok (.ldc 67, 2) := by decide +kernel
theorem dX12_payers_56 : decode cX12_payers 56 = .ok (.if_icmp .ne 7, 3) := by decide +kernel
theorem dX12_payers_59 : decode cX12_payers 59 = .ok (.iconst 1, 1) := by decide +kernel
theorem dX12_payers_60 : decode cX12_payers 60 = .ok (.goto 4, 3) := by decide +kernel
theorem dX12_payers_63 : decode cX12_payers 63 = .ok (.iconst 0, 1) := by decide +kernel
theorem dX12_payers_64 : decode cX12_payers 64 = .ok (.istore 5, 2) := by decide +kernel
theorem dX12_payers_66 : decode cX12_payers 66 = .ok (.iload 5, 2) := by decide +kernel
theorem dX12_payers_68 : decode cX12_payers 68 = .ok (.ifCond .eq 51, 3) := by decide +kernel
theorem dX12_payers_71 : decode cX12_payers 71 = .ok (.iload_n 3, 1) := by decide +kernel
theorem dX12_payers_72 : decode cX12_payers 72 = .ok (.ldc 67, 2) := by decide +kernel
theorem dX12_payers_74 : decode cX12_payers 74 = .ok (.if_icmp .eq 14, 3) := by decide +kernel
theorem dX12_payers_77 : decode cX12_payers 77 = .ok (.iload_n 2, 1) := by decide +kernel
theorem dX12_payers_78 : decode cX12_payers 78 = .ok (.bipush 100, 2) := by decide +kernel
theorem dX12_payers_80 : decode cX12_payers 80 = .ok (.idiv, 1) := by decide +kernel
theorem dX12_payers_81 : decode cX12_payers 81 = .ok (.iload_n 3, 1) := by decide +kernel
theorem dX12_payers_82 : decode cX12_payers 82 = .ok (.bipush 100, 2) := by decide +kernel
theorem dX12_payers_84 : decode cX12_payers 84 = .ok (.idiv, 1) := by decide +kernel
theorem dX12_payers_85 : decode cX12_payers 85 = .ok (.if_icmp .eq 34, 3) := by decide +kernel
theorem dX12_payers_88 : decode cX12_payers 88 = .ok (.iload 4, 2) := by decide +kernel
theorem dX12_payers_90 : decode cX12_payers 90 = .ok (.ldc 67, 2) := by decide +kernel
theorem dX12_payers_92 : decode cX12_payers 92 = .ok (.if_icmp .eq 30, 3) := by decide +kernel
theorem dX12_payers_95 : decode cX12_payers 95 = .ok (.iload_n 2, 1) := by decide +kernel
theorem dX12_payers_96 : decode cX12_payers 96 = .ok (.bipush 100, 2) := by decide +kernel
theorem dX12_payers_98 : decode cX12_payers 98 = .ok (.idiv, 1) := by decide +kernel
theorem dX12_payers_99 : decode cX12_payers 99 = .ok (.iload 4, 2) := by decide +kernel
theorem dX12_payers_101 : decode cX12_payers 101 = .ok (.bipush 100, 2) := by decide +kernel
theorem dX12_payers_103 : decode cX12_payers 103 = .ok (.idiv, 1) := by decide +kernel
theorem dX12_payers_104 : decode cX12_payers 104 = .ok (.if_icmp .eq 15, 3) := by decide +kernel
theorem dX12_payers_107 : decode cX12_payers 107 = .ok (.iload_n 3, 1) := by decide +kernel
theorem dX12_payers_108 : decode cX12_payers 108 = .ok (.bipush 100, 2) := by decide +kernel
theorem dX12_payers_110 : decode cX12_payers 110 = .ok (.idiv, 1) := by decide +kernel
theorem dX12_payers_111 : decode cX12_payers 111 = .ok (.iload 4, 2) := by decide +kernel
theorem dX12_payers_113 : decode cX12_payers 113 = .ok (.bipush 100, 2) := by decide +kernel
theorem dX12_payers_115 : decode cX12_payers 115 = .ok (.idiv, 1) := by decide +kernel
theorem dX12_payers_116 : decode cX12_payers 116 = .ok (.if_icmp .ne 6, 3) := by decide +kernel
theorem dX12_payers_119 : decode cX12_payers 119 = .ok (.ldc 72, 2) := by decide +kernel
theorem dX12_payers_121 : decode cX12_payers 121 = .ok (.ireturn, 1) := by decide +kernel
theorem dX12_payers_122 : decode cX12_payers 122 = .ok (.aload_n 0, 1) := by decide +kernel
theorem dX12_payers_123 : decode cX12_payers 123 = .ok (.iload_n 1, 1) := by decide +kernel
theorem dX12_payers_124 : decode cX12_payers 124 = .ok (.invokevirtual 88, 3) := by decide +kernel
theorem dX12_payers_127 : decode cX12_payers 127 = .ok (.ifCond .eq 6, 3) := by decide +kernel
theorem dX12_payers_130 : decode cX12_payers 130 = .ok (.ldc 91, 2) := by decide +kernel
theorem dX12_payers_132 : decode cX12_payers 132 = .ok (.ireturn, 1) := by decide +kernel
theorem dX12_payers_133 : decode cX12_payers 133 = .ok (.bipush 50, 2) := by decide +kernel
theorem dX12_payers_135 : decode cX12_payers 135 = .ok (.bipush 20, 2) := by decide +kernel
theorem dX12_payers_137 : decode cX12_payers 137 = .ok (.iload_n 1, 1) := by decide +kernel
theorem dX12_payers_138 : decode cX12_payers 138 = .ok (.imul, 1) := by decide +kernel
theorem dX12_payers_139 : decode cX12_payers 139 = .ok (.iadd, 1) := by decide +kernel
theorem dX12_payers_140 : decode cX12_payers 140 = .ok (.istore 6, 2) := by decide +kernel
theorem dX12_payers_142 : decode cX12_payers 142 = .ok (.aload_n 0, 1) := by decide +kernel
theorem dX12_payers_143 : decode cX12_payers 143 = .ok (.getfield 7, 3) := by decide +kernel
theorem dX12_payers_146 : decode cX12_payers 146 = .ok (.iload 6, 2) := by decide +kernel
theorem dX12_payers_148 : decode cX12_payers 148 = .ok (.bipush 10, 2) := by decide +kernel
theorem dX12_payers_150 : decode cX12_payers 150 = .ok (.iadd, 1) := by decide +kernel
theorem dX12_payers_151 : decode cX12_payers 151 = .ok (.iload_n 3, 1) := by decide +kernel
theorem dX12_payers_152 : decode cX12_payers 152 = .ok (.ldc 67, 2) := by decide +kernel
theorem dX12_payers_154 : decode cX12_payers 154 = .ok (.if_icmp .ne 7, 3) := by decide +kernel
theorem dX12_payers_157 : decode cX12_payers 157 = .ok (.iconst 1, 1) := by decide +kernel
theorem dX12_payers_158 : decode cX12_payers 158 = .ok (.goto 15, 3) := by decide +kernel
theorem dX12_payers_161 : decode cX12_payers 161 = .ok (.iload 4, 2) := by decide +kernel
theorem dX12_payers_163 : decode cX12_payers 163 = .ok (.ldc 67, 2) := by decide +kernel
theorem dX12_payers_165 : decode cX12_payers 165 = .ok (.if_icmp .ne 7, 3) := by decide +kernel
theorem dX12_payers_168 : decode cX12_payers 168 = .ok (.iconst 2, 1) := by decide +kernel
theorem dX12_payers_169 : decode cX12_payers 169 = .ok (.goto 4, 3) := by decide +kernel
theorem dX12_payers_172 : decode cX12_payers 172 = .ok (.iconst 3, 1) := by decide +kernel
theorem dX12_payers_173 : decode cX12_payers 173 = .ok (.iastore, 1) := by decide +kernel
theorem dX12_payers_174 : decode cX12_payers 174 = .ok (.iconst 0, 1) := by decide +kernel
theorem dX12_payers_175 : decode cX12_payers 175 = .ok (.istore 7, 2) := by decide +kernel
theorem dX12_payers_177 : decode cX12_payers 177 = .ok (.iload 7, 2) := by decide +kernel
theorem dX12_payers_179 : decode cX12_payers 179 = .ok (.aload_n 0, 1) := by decide +kernel
theorem dX12_payers_180 : decode cX12_payers 180 = .ok (.getfield 7, 3) := by decide +kernel
theorem dX12_payers_183 : decode cX12_payers 183 = .ok (.iload 6, 2) := by decide +kernel
theorem dX12_payers_185 : decode cX12_payers 185 = .ok (.bipush 10, 2) := by decide +kernel
theorem dX12_payers_187 : decode cX12_payers 187 = .ok (.iadd, 1) := by decide +kernel
theorem dX12_payers_188 : decode cX12_payers 188 = .ok (.iaload, 1) := by decide +kernel
theorem dX12_payers_189 : decode cX12_payers 189 = .ok (.if_icmp .ge 68, 3) := by decide +kernel
theorem dX12_payers_192 : decode cX12_payers 192 = .ok (.iload 7, 2) := by decide +kernel
theorem dX12_payers_194 : decode cX12_payers 194 = .ok (.ifCond .ne 7, 3) := by decide +kernel
theorem dX12_payers_197 : decode cX12_payers 197 = .ok (.iload_n 2, 1) := by decide +kernel
theorem dX12_payers_198 : decode cX12_payers 198 = .ok (.goto 15, 3) := by decide +kernel
theorem dX12_payers_201 : decode cX12_payers 201 = .ok (.iload 7, 2) := by decide +kernel
theorem dX12_payers_203 : decode cX12_payers 203 = .ok (.iconst 1, 1) := by decide +kernel
theorem dX12_payers_204 : decode cX12_payers 204 = .ok (.if_icmp .ne 7, 3) := by decide +kernel
theorem dX12_payers_207 : decode cX12_payers 207 = .ok (.iload_n 3, 1) := by decide +kernel
theorem dX12_payers_208 : decode cX12_payers 208 = .ok (.goto 5, 3) := by decide +kernel
theorem dX12_payers_211 : decode cX12_payers 211 = .ok (.iload 4, 2) := by decide +kernel
theorem dX12_payers_213 : decode cX12_payers 213 = .ok (.istore 8, 2) := by decide +kernel
theorem dX12_payers_215 : decode cX12_payers 215 = .ok (.aload_n 0, 1) := by decide +kernel
theorem dX12_payers_216 : decode cX12_payers 216 = .ok (.getfield 7, 3) := by decide +kernel
theorem dX12_payers_219 : decode cX12_payers 219 = .ok (.iload 6, 2) := by decide +kernel
theorem dX12_payers_221 : decode cX12_payers 221 = .ok (.bipush 11, 2) := by decide +kernel
theorem dX12_payers_223 : decode cX12_payers 223 = .ok (.iadd, 1) := by decide +kernel
theorem dX12_payers_224 : decode cX12_payers 224 = .ok (.iload 7, 2) := by decide +kernel
theorem dX12_payers_226 : decode cX12_payers 226 = .ok (.iadd, 1) := by decide +kernel
theorem dX12_payers_227 : decode cX12_payers 227 = .ok (.iload 8, 2) := by decide +kernel
theorem dX12_payers_229 : decode cX12_payers 229 = .ok (.bipush 100, 2) := by decide +kernel
theorem dX12_payers_231 : decode cX12_payers 231 = .ok (.idiv, 1) := by decide +kernel
theorem dX12_payers_232 : decode cX12_payers 232 = .ok (.iastore, 1) := by decide +kernel
theorem dX12_payers_233 : decode cX12_payers 233 = .ok (.aload_n 0, 1) := by decide +kernel
theorem dX12_payers_234 : decode cX12_payers 234 = .ok (.getfield 7, 3) := by decide +kernel
theorem dX12_payers_237 : decode cX12_payers 237 = .ok (.iload 6, 2) := by decide +kernel
theorem dX12_payers_239 : decode cX12_payers 239 = .ok (.bipush 14, 2) := by decide +kernel
theorem dX12_payers_241 : decode cX12_payers 241 = .ok (.iadd, 1) := by decide +kernel
theorem dX12_payers_242 : decode cX12_payers 242 = .ok (.iload 7, 2) := by decide +kernel
theorem dX12_payers_244 : decode cX12_payers 244 = .ok (.iadd, 1) := by decide +kernel
theorem dX12_payers_245 : decode cX12_payers 245 = .ok (.iload 8, 2) := by decide +kernel
theorem dX12_payers_247 : decode cX12_payers 247 = .ok (.bipush 100, 2) := by decide +kernel
theorem dX12_payers_249 : decode cX12_payers 249 = .ok (.irem, 1) := by decide +kernel
theorem dX12_payers_250 : decode cX12_payers 250 = .ok (.iastore, 1) := by decide +kernel
theorem dX12_payers_251 : decode cX12_payers 251 = .ok (.iinc 7 1, 3) := by decide +kernel
theorem dX12_payers_254 : decode cX12_payers 254 = .ok (.goto (-77), 3) := by decide +kernel
theorem dX12_payers_257 : decode cX12_payers 257 = .ok (.aload_n 0, 1) := by decide +kernel
theorem dX12_payers_258 : decode cX12_payers 258 = .ok (.getfield 7, 3) := by decide +kernel
theorem dX12_payers_261 : decode cX12_payers 261 = .ok (.iload 6, 2) := by decide +kernel
theorem dX12_payers_263 : decode cX12_payers 263 = .ok (.bipush 10, 2) := by decide +kernel
theorem dX12_payers_265 : decode cX12_payers 265 = .ok (.iadd, 1) := by decide +kernel
theorem dX12_payers_266 : decode cX12_payers 266 = .ok (.iaload, 1) := by decide +kernel
theorem dX12_payers_267 : decode cX12_payers 267 = .ok (.ireturn, 1) := by decide +kernel
theorem dX12_wall_0 : decode cX12_wall 0 = .ok (.aload_n 0, 1) := by decide +kernel
theorem dX12_wall_1 : decode cX12_wall 1 = .ok (.iload_n 1, 1) := by decide +kernel
theorem dX12_wall_2 : decode cX12_wall 2 = .ok (.invokevirtual 74, 3) := by decide +kernel
theorem dX12_wall_5 : decode cX12_wall 5 = .ok (.ifCond .eq 20, 3) := by decide +kernel
theorem dX12_wall_8 : decode cX12_wall 8 = .ok (.aload_n 0, 1) := by decide +kernel
theorem dX12_wall_9 : decode cX12_wall 9 = .ok (.iload_n 2, 1) := by decide +kernel
theorem dX12_wall_10 : decode cX12_wall 10 = .ok (.invokevirtual 82, 3) := by decide +kernel
theorem dX12_wall_13 : decode cX12_wall 13 = .ok (.ifCond .eq 12, 3) := by decide +kernel
theorem dX12_wall_16 : decode cX12_wall 16 = .ok (.iload_n 3, 1) := by decide +kernel
theorem dX12_wall_17 : decode cX12_wall 17 = .ok (.iconst 0, 1) := by decide +kernel
theorem dX12_wall_18 : decode cX12_wall 18 = .ok (.iconst 1, 1) := by decide +kernel
theorem dX12_wall_19 : decode cX12_wall 19 = .ok (.invokestatic 68, 3) := by decide +kernel
theorem dX12_wall_22 : decode cX12_wall 22 = .ok (.ifCond .ne 6, 3) := by decide +kernel
theorem dX12_wall_25 : decode cX12_wall 25 = .ok (.ldc 72, 2) := by decide +kernel
theorem dX12_wall_27 : decode cX12_wall 27 = .ok (.ireturn, 1) := by decide +kernel
theorem dX12_wall_28 : decode cX12_wall 28 = .ok (.bipush 50, 2) := by decide +kernel
theorem dX12_wall_30 : decode cX12_wall 30 = .ok (.bipush 20, 2) := by decide +kernel
theorem dX12_wall_32 : decode cX12_wall 32 = .ok (.iload_n 2, 1) := by decide +kernel
theorem dX12_wall_33 : decode cX12_wall 33 = .ok (.imul, 1) := by decide +kernel
theorem dX12_wall_34 : decode cX12_wall 34 = .ok (.iadd, 1) := by decide +kernel
theorem dX12_wall_35 : decode cX12_wall 35 = .ok (.bipush 17, 2) := by decide +kernel
theorem dX12_wall_37 : decode cX12_wall 37 = .ok (.iadd, 1) := by decide +kernel
theorem dX12_wall_38 : decode cX12_wall 38 = .ok (.istore 4, 2) := by decide +kernel
theorem dX12_wall_40 : decode cX12_wall 40 = .ok (.aload_n 0, 1) := by decide +kernel
theorem dX12_wall_41 : decode cX12_wall 41 = .ok (.getfield 7, 3) := by decide +kernel
theorem dX12_wall_44 : decode cX12_wall 44 = .ok (.iload 4, 2) := by decide +kernel
theorem dX12_wall_46 : decode cX12_wall 46 = .ok (.iaload, 1) := by decide +kernel
theorem dX12_wall_47 : decode cX12_wall 47 = .ok (.iload_n 1, 1) := by decide +kernel
theorem dX12_wall_48 : decode cX12_wall 48 = .ok (.ishr, 1) := by decide +kernel
theorem dX12_wall_49 : decode cX12_wall 49 = .ok (.iconst 1, 1) := by decide +kernel
theorem dX12_wall_50 : decode cX12_wall 50 = .ok (.iand, 1) := by decide +kernel
theorem dX12_wall_51 : decode cX12_wall 51 = .ok (.istore 5, 2) := by decide +kernel
theorem dX12_wall_53 : decode cX12_wall 53 = .ok (.aload_n 0, 1) := by decide +kernel
theorem dX12_wall_54 : decode cX12_wall 54 = .ok (.getfield 7, 3) := by decide +kernel
theorem dX12_wall_57 : decode cX12_wall 57 = .ok (.iload 4, 2) := by decide +kernel
theorem dX12_wall_59 : decode cX12_wall 59 = .ok (.iload 5, 2) := by decide +kernel
theorem dX12_wall_61 : decode cX12_wall 61 = .ok (.iload_n 3, 1) := by decide +kernel
theorem dX12_wall_62 : decode cX12_wall 62 = .ok (.if_icmp .ne 13, 3) := by decide +kernel
theorem dX12_wall_65 : decode cX12_wall 65 = .ok (.aload_n 0, 1) := by decide +kernel
theorem dX12_wall_66 : decode cX12_wall 66 = .ok (.getfield 7, 3) := by decide +kernel
theorem dX12_wall_69 : decode cX12_wall 69 = .ok (.iload 4, 2) := by decide +kernel
theorem dX12_wall_71 : decode cX12_wall 71 = .ok (.iaload, 1) := by decide +kernel
theorem dX12_wall_72 : decode cX12_wall 72 = .ok (.goto 14, 3) := by decide +kernel
theorem dX12_wall_75 : decode cX12_wall 75 = .ok (.aload_n 0, 1) := by decide +kernel
theorem dX12_wall_76 : decode cX12_wall 76 = .ok (.getfield 7, 3) := by decide +kernel
theorem dX12_wall_79 : decode cX12_wall 79 = .ok (.iload 4, 2) := by decide +kernel
theorem dX12_wall_81 : decode cX12_wall 81 = .ok (.iaload, 1) := by decide +kernel
theorem dX12_wall_82 : decode cX12_wall 82 = .ok (.iconst 1, 1) := by decide +kernel
theorem dX12_wall_83 : decode cX12_wall 83 = .ok (.iload_n 1, 1) := by decide +kernel
theorem dX12_wall_84 : decode cX12_wall 84 = .ok (.ishl, 1) := by decide +kernel
theorem dX12_wall_85 : decode cX12_wall 85 = .ok (.ixor, 1) := by decide +kernel
theorem dX12_wall_86 : decode cX12_wall 86 = .ok (.iastore, 1) := by decide +kernel
theorem dX12_wall_87 : decode cX12_wall 87 = .ok (.iload 5, 2) := by decide +kernel
theorem dX12_wall_89 : decode cX12_wall 89 = .ok (.ireturn, 1) := by decide +kernel
theorem dX12_days_0 : decode cX12_days 0 = .ok (.iload_n 1, 1) := by decide +kernel
theorem dX12_days_1 : decode cX12_days 1 = .ok (.iconst 1, 1) := by decide +kernel
theorem dX12_days_2 : decode cX12_days 2 = .ok (.bipush 100, 2) := by decide +kernel
theorem dX12_days_4 : decode cX12_days 4 = .ok (.invokestatic 68, 3) := by decide +kernel
theorem dX12_days_7 : decode cX12_days 7 = .ok (.ifCond .eq 17, 3) := by decide +kernel
theorem dX12_days_10 : decode cX12_days 10 = .ok (.aload_n 0, 1) := by decide +kernel
theorem dX12_days_11 : decode cX12_days 11 = .ok (.getfield 7, 3) := by decide +kernel
theorem dX12_days_14 : decode cX12_days 14 = .ok (.iconst 0, 1) := by decide +kernel
theorem dX12_days_15 : decode cX12_days 15 = .ok (.iaload, 1) := by decide +kernel
theorem dX12_days_16 : decode cX12_days 16 = .ok (.iload_n 1, 1) := by decide +kernel
theorem dX12_days_17 : decode cX12_days 17 = .ok (.iadd, 1) := by decide +kernel
theorem dX12_days_18 : decode cX12_days 18 = .ok (.sipush 900, 3) := by decide +kernel
theorem dX12_days_21 : decode cX12_days 21 = .ok (.if_icmp .le 6, 3) := by decide +kernel
theorem dX12_days_24 : decode cX12_days 24 = .ok (.ldc 72, 2) := by decide +kernel
theorem dX12_days_26 : decode cX12_days 26 = .ok (.ireturn, 1) := by decide +kernel
theorem dX12_days_27 : decode cX12_days 27 = .ok (.aload_n 0, 1) := by decide +kernel
theorem dX12_days_28 : decode cX12_days 28 = .ok (.getfield 7, 3) := by decide +kernel
theorem dX12_days_31 : decode cX12_days 31 = .ok (.iconst 0, 1) := by decide +kernel
theorem dX12_days_32 : decode cX12_days 32 = .ok (.dup2, 1) := by decide +kernel
theorem dX12_days_33 : decode cX12_days 33 = .ok (.iaload, 1) := by decide +kernel
theorem dX12_days_34 : decode cX12_days 34 = .ok (.iload_n 1, 1) := by decide +kernel
theorem dX12_days_35 : decode cX12_days 35 = .ok (.iadd, 1) := by decide +kernel
theorem dX12_days_36 : decode cX12_days 36 = .ok (.iastore, 1) := by decide +kernel
theorem dX12_days_37 : decode cX12_days 37 = .ok (.aload_n 0, 1) := by decide +kernel
theorem dX12_days_38 : decode cX12_days 38 = .ok (.getfield 7, 3) := by decide +kernel
theorem dX12_days_41 : decode cX12_days 41 = .ok (.iconst 0, 1) := by decide +kernel
theorem dX12_days_42 : decode cX12_days 42 = .ok (.iaload, 1) := by decide +kernel
theorem dX12_days_43 : decode cX12_days 43 = .ok (.ireturn, 1) := by decide +kernel
theorem dX12_rule_0 : decode cX12_rule 0 = .ok (.iload_n 1, 1) := by decide +kernel
theorem dX12_rule_1 : decode cX12_rule 1 = .ok (.iconst 0, 1) := by decide +kernel
theorem dX12_rule_2 : decode cX12_rule 2 = .ok (.iconst 2, 1) := by decide +kernel
theorem dX12_rule_3 : decode cX12_rule 3 = .ok (.invokestatic 68, 3) := by decide +kernel
theorem dX12_rule_6 : decode cX12_rule 6 = .ok (.ifCond .eq 34, 3) := by decide +kernel
theorem dX12_rule_9 : decode cX12_rule 9 = .ok (.iload_n 2, 1) := by decide +kernel
theorem dX12_rule_10 : decode cX12_rule 10 = .ok (.iconst 0, 1) := by decide +kernel
theorem dX12_rule_11 : decode cX12_rule 11 = .ok (.iload_n 1, 1) := by decide +kernel
theorem dX12_rule_12 : decode cX12_rule 12 = .ok (.ifCond .ne 9, 3) := by decide +kernel
theorem dX12_rule_15 : decode cX12_rule 15 = .ok (.sipush 240, 3) := by decide +kernel
theorem dX12_rule_18 : decode cX12_rule 18 = .ok (.goto 16, 3) := by decide +kernel
theorem dX12_rule_21 : decode cX12_rule 21 = .ok (.iload_n 1, 1) := by decide +kernel
theorem dX12_rule_22 : decode cX12_rule 22 = .ok (.iconst 1, 1) := by decide +kernel
theorem dX12_rule_23 : decode cX12_rule 23 = .ok (.if_icmp .ne 8, 3) := by decide +kernel
theorem dX12_rule_26 : decode cX12_rule 26 = .ok (.bipush 100, 2) := by decide +kernel
theorem dX12_rule_28 : decode cX12_rule 28 = .ok (.goto 6, 3) := by decide +kernel
theorem dX12_rule_31 : decode cX12_rule 31 = .ok (.sipush 900, 3) := by decide +kernel
theorem dX12_rule_34 : decode cX12_rule 34 = .ok (.invokestatic 68, 3) := by decide +kernel
theorem dX12_rule_37 : decode cX12_rule 37 = .ok (.ifCond .ne 6, 3) := by decide +kernel
theorem dX12_rule_40 : decode cX12_rule 40 = .ok (.ldc 72, 2) := by decide +kernel
theorem dX12_rule_42 : decode cX12_rule 42 = .ok (.ireturn, 1) := by decide +kernel
theorem dX12_rule_43 : decode cX12_rule 43 = .ok (.aload_n 0, 1) := by decide +kernel
theorem dX12_rule_44 : decode cX12_rule 44 = .ok (.getfield 7, 3) := by decide +kernel
theorem dX12_rule_47 : decode cX12_rule 47 = .ok (.iconst 1, 1) := by decide +kernel
theorem dX12_rule_48 : decode cX12_rule 48 = .ok (.iload_n 1, 1) := by decide +kernel
theorem dX12_rule_49 : decode cX12_rule 49 = .ok (.iadd, 1) := by decide +kernel
theorem dX12_rule_50 : decode cX12_rule 50 = .ok (.iaload, 1) := by decide +kernel
theorem dX12_rule_51 : decode cX12_rule 51 = .ok (.istore_n 3, 1) := by decide +kernel
theorem dX12_rule_52 : decode cX12_rule 52 = .ok (.aload_n 0, 1) := by decide +kernel
theorem dX12_rule_53 : decode cX12_rule 53 = .ok (.getfield 7, 3) := by decide +kernel
theorem dX12_rule_56 : decode cX12_rule 56 = .ok (.iconst 1, 1) := by decide +kernel
theorem dX12_rule_57 : decode cX12_rule 57 = .ok (.iload_n 1, 1) := by decide +kernel
theorem dX12_rule_58 : decode cX12_rule 58 = .ok (.iadd, 1) := by decide +kernel
theorem dX12_rule_59 : decode cX12_rule 59 = .ok (.iload_n 2, 1) := by decide +kernel
theorem dX12_rule_60 : decode cX12_rule 60 = .ok (.iastore, 1) := by decide +kernel
theorem dX12_rule_61 : decode cX12_rule 61 = .ok (.iload_n 3, 1) := by decide +kernel
theorem dX12_rule_62 : decode cX12_rule 62 = .ok (.ireturn, 1) := by decide +kernel
theorem dX12_areParts_0 : decode cX12_areParts 0 = .ok (.iload_n 0, 1) := by decide +kernel
theorem dX12_areParts_1 : decode cX12_areParts 1 = .ok (.ifCond .lt 32, 3) := by decide +kernel
theorem dX12_areParts_4 : decode cX12_areParts 4 = .ok (.iload_n 0, 1) := by decide +kernel
theorem dX12_areParts_5 : decode cX12_areParts 5 = .ok (.sipush 1000, 3) := by decide +kernel
theorem dX12_areParts_8 : decode cX12_areParts 8 = .ok (.irem, 1) := by decide +kernel
theorem dX12_areParts_9 : decode cX12_areParts 9 = .ok (.ifCond .le 24, 3) := by decide +kernel
theorem dX12_areParts_12 : decode cX12_areParts 12 = .ok (.iload_n 0, 1) := by decide +kernel
theorem dX12_areParts_13 : decode cX12_areParts 13 = .ok (.sipush 1000, 3) := by decide +kernel
theorem dX12_areParts_16 : decode cX12_areParts 16 = .ok (.idiv, 1) := by decide +kernel
theorem dX12_areParts_17 : decode cX12_areParts 17 = .ok (.iload_n 0, 1) := by decide +kernel
theorem dX12_areParts_18 : decode cX12_areParts 18 = .ok (.sipush 1000, 3) := by decide +kernel
theorem dX12_areParts_21 : decode cX12_areParts 21 = .ok (.irem, 1) := by decide +kernel
theorem dX12_areParts_22 : decode cX12_areParts 22 = .ok (.iadd, 1) := by decide +kernel
theorem dX12_areParts_23 : decode cX12_areParts 23 = .ok (.sipush 240, 3) := by decide +kernel
theorem dX12_areParts_26 : decode cX12_areParts 26 = .ok (.if_icmp .gt 7, 3) := by decide +kernel
theorem dX12_areParts_29 : decode cX12_areParts 29 = .ok (.iconst 1, 1) := by decide +kernel
theorem dX12_areParts_30 : decode cX12_areParts 30 = .ok (.goto 4, 3) := by decide +kernel
theorem dX12_areParts_33 : decode cX12_areParts 33 = .ok (.iconst 0, 1) := by decide +kernel
theorem dX12_areParts_34 : decode cX12_areParts 34 = .ok (.ireturn, 1) := by decide +kernel
theorem dX12_entry_0 : decode cX12_entry 0 = .ok (.aload_n 0, 1) := by decide +kernel
theorem dX12_entry_1 : decode cX12_entry 1 = .ok (.iload_n 1, 1) := by decide +kernel
theorem dX12_entry_2 : decode cX12_entry 2 = .ok (.invokevirtual 74, 3) := by decide +kernel
theorem dX12_entry_5 : decode cX12_entry 5 = .ok (.ifCond .eq 37, 3) := by decide +kernel
theorem dX12_entry_8 : decode cX12_entry 8 = .ok (.aload_n 0, 1) := by decide +kernel
theorem dX12_entry_9 : decode cX12_entry 9 = .ok (.iload_n 2, 1) := by decide +kernel
theorem dX12_entry_10 : decode cX12_entry 10 = .ok (.invokevirtual 82, 3) := by decide +kernel
theorem dX12_entry_13 : decode cX12_entry 13 = .ok (.ifCond .eq 29, 3) := by decide +kernel
theorem dX12_entry_16 : decode cX12_entry 16 = .ok (.aload_n 0, 1) := by decide +kernel
theorem dX12_entry_17 : decode cX12_entry 17 = .ok (.iload_n 3, 1) := by decide +kernel
theorem dX12_entry_18 : decode cX12_entry 18 = .ok (.invokevirtual 92, 3) := by decide +kernel
theorem dX12_entry_21 : decode cX12_entry 21 = .ok (.ifCond .eq 21, 3) := by decide +kernel
theorem dX12_entry_24 : decode cX12_entry 24 = .ok (.iload 4, 2) := by decide +kernel
theorem dX12_entry_26 : decode cX12_entry 26 = .ok (.invokestatic 95, 3) := by decide +kernel
theorem dX12_entry_29 : decode cX12_entry 29 = .ok (.ifCond .eq 13, 3) := by decide +kernel
theorem dX12_entry_32 : decode cX12_entry 32 = .ok (.iload 5, 2) := by decide +kernel
theorem dX12_entry_34 : decode cX12_entry 34 = .ok (.iconst 0, 1) := by decide +kernel
theorem dX12_entry_35 : decode cX12_entry 35 = .ok (.iconst 5, 1) := by decide +kernel
theorem dX12_entry_36 : decode cX12_entry 36 = .ok (.invokestatic 68, 3) := by decide +kernel
theorem dX12_entry_39 : decode cX12_entry 39 = .ok (.ifCond .ne 6, 3) := by decide +kernel
theorem dX12_entry_42 : decode cX12_entry 42 = .ok (.ldc 72, 2) := by decide +kernel
theorem dX12_entry_44 : decode cX12_entry 44 = .ok (.ireturn, 1) := by decide +kernel
theorem dX12_entry_45 : decode cX12_entry 45 = .ok (.aload_n 0, 1) := by decide +kernel
theorem dX12_entry_46 : decode cX12_entry 46 = .ok (.getfield 7, 3) := by decide +kernel
theorem dX12_entry_49 : decode cX12_entry 49 = .ok (.bipush 50, 2) := by decide +kernel
theorem dX12_entry_51 : decode cX12_entry 51 = .ok (.bipush 20, 2) := by decide +kernel
theorem dX12_entry_53 : decode cX12_entry 53 = .ok (.iload_n 2, 1) := by decide +kernel
theorem dX12_entry_54 : decode cX12_entry 54 = .ok (.imul, 1) := by decide +kernel
theorem dX12_entry_55 : decode cX12_entry 55 = .ok (.iadd, 1) := by decide +kernel
theorem dX12_entry_56 : decode cX12_entry 56 = .ok (.bipush 17, 2) := by decide +kernel
theorem dX12_entry_58 : decode cX12_entry 58 = .ok (.iadd, 1) := by decide +kernel
theorem dX12_entry_59 : decode cX12_entry 59 = .ok (.iaload, 1) := by decide +kernel
theorem dX12_entry_60 : decode cX12_entry 60 = .ok (.iload_n 1, 1) := by decide +kernel
theorem dX12_entry_61 : decode cX12_entry 61 = .ok (.ishr, 1) := by decide +kernel
theorem dX12_entry_62 : decode cX12_entry 62 = .ok (.iconst 1, 1) := by decide +kernel
theorem dX12_entry_63 : decode cX12_entry 63 = .ok (.iand, 1) := by decide +kernel
theorem dX12_entry_64 : decode cX12_entry 64 = .ok (.iconst 1, 1) := by decide +kernel
theorem dX12_entry_65 : decode cX12_entry 65 = .ok (.if_icmp .ne 6, 3) := by decide +kernel
theorem dX12_entry_68 : decode cX12_entry 68 = .ok (.ldc 91, 2) := by decide +kernel
theorem dX12_entry_70 : decode cX12_entry 70 = .ok (.ireturn, 1) := by decide +kernel
theorem dX12_entry_71 : decode cX12_entry 71 = .ok (.aload_n 0, 1) := by decide +kernel
theorem dX12_entry_72 : decode cX12_entry 72 = .ok (.getfield 7, 3) := by decide +kernel
theorem dX12_entry_75 : decode cX12_entry 75 = .ok (.bipush 7, 2) := by decide +kernel
theorem dX12_entry_77 : decode cX12_entry 77 = .ok (.iaload, 1) := by decide +kernel
theorem dX12_entry_78 : decode cX12_entry 78 = .ok (.bipush 90, 2) := by decide +kernel
theorem dX12_entry_80 : decode cX12_entry 80 = .ok (.if_icmp .ne 6, 3) := by decide +kernel
theorem dX12_entry_83 : decode cX12_entry 83 = .ok (.ldc 73, 2) := by decide +kernel
theorem dX12_entry_85 : decode cX12_entry 85 = .ok (.ireturn, 1) := by decide +kernel
theorem dX12_entry_86 : decode cX12_entry 86 = .ok (.sipush 250, 3) := by decide +kernel
theorem dX12_entry_89 : decode cX12_entry 89 = .ok (.bipush 12, 2) := by decide +kernel
theorem dX12_entry_91 : decode cX12_entry 91 = .ok (.aload_n 0, 1) := by decide +kernel
theorem dX12_entry_92 : decode cX12_entry 92 = .ok (.getfield 7, 3) := by decide +kernel
theorem dX12_entry_95 : decode cX12_entry 95 = .ok (.bipush 7, 2) := by decide +kernel
theorem dX12_entry_97 : decode cX12_entry 97 = .ok (.iaload, 1) := by decide +kernel
theorem dX12_entry_98 : decode cX12_entry 98 = .ok (.imul, 1) := by decide +kernel
theorem dX12_entry_99 : decode cX12_entry 99 = .ok (.iadd, 1) := by decide +kernel
theorem dX12_entry_100 : decode cX12_entry 100 = .ok (.istore 6, 2) := by decide +kernel
theorem dX12_entry_102 : decode cX12_entry 102 = .ok (.aload_n 0, 1) := by decide +kernel
theorem dX12_entry_103 : decode cX12_entry 103 = .ok (.getfield 7, 3) := by decide +kernel
theorem dX12_entry_106 : decode cX12_entry 106 = .ok (.iload 6, 2) := by decide +kernel
theorem dX12_entry_108 : decode cX12_entry 108 = .ok (.iload_n 1, 1) := by decide +kernel
theorem dX12_entry_109 : decode cX12_entry 109 = .ok (.iastore, 1) := by decide +kernel
theorem dX12_entry_110 : decode cX12_entry 110 = .ok (.aload_n 0, 1) := by decide +kernel
theorem dX12_entry_111 : decode cX12_entry 111 = .ok (.getfield 7, 3) := by decide +kernel
theorem dX12_entry_114 : decode cX12_entry 114 = .ok (.iload 6, 2) := by decide +kernel
theorem dX12_entry_116 : decode cX12_entry 116 = .ok (.iconst 1, 1) := by decide +kernel
theorem dX12_entry_117 : decode cX12_entry 117 = .ok (.iadd, 1) := by decide +kernel
theorem dX12_entry_118 : decode cX12_entry 118 = .ok (.iload_n 2, 1) := by decide +kernel
theorem dX12_entry_119 : decode cX12_entry 119 = .ok (.iastore, 1) := by decide +kernel
theorem dX12_entry_120 : decode cX12_entry 120 = .ok (.aload_n 0, 1) := by decide +kernel
theorem dX12_entry_121 : decode cX12_entry 121 = .ok (.getfield 7, 3) := by decide +kernel
theorem dX12_entry_124 : decode cX12_entry 124 = .ok (.iload 6, 2) := by decide +kernel
theorem dX12_entry_126 : decode cX12_entry 126 = .ok (.iconst 2, 1) := by decide +kernel
theorem dX12_entry_127 : decode cX12_entry 127 = .ok (.iadd, 1) := by decide +kernel
theorem dX12_entry_128 : decode cX12_entry 128 = .ok (.iload_n 3, 1) := by decide +kernel
theorem dX12_entry_129 : decode cX12_entry 129 = .ok (.iastore, 1) := by decide +kernel
theorem dX12_entry_130 : decode cX12_entry 130 = .ok (.aload_n 0, 1) := by decide +kernel
theorem dX12_entry_131 : decode cX12_entry 131 = .ok (.getfield 7, 3) := by decide +kernel
theorem dX12_entry_134 : decode cX12_entry 134 = .ok (.iload 6, 2) := by decide +kernel
theorem dX12_entry_136 : decode cX12_entry 136 = .ok (.iconst 3, 1) := by decide +kernel
theorem dX12_entry_137 : decode cX12_entry 137 = .ok (.iadd, 1) := by decide +kernel
theorem dX12_entry_138 : decode cX12_entry 138 = .ok (.iload 4, 2) := by decide +kernel
theorem dX12_entry_140 : decode cX12_entry 140 = .ok (.sipush 1000, 3) := by decide +kernel
theorem dX12_entry_143 : decode cX12_entry 143 = .ok (.idiv, 1) := by decide +kernel
theorem dX12_entry_144 : decode cX12_entry 144 = .ok (.iastore, 1) := by decide +kernel
theorem dX12_entry_145 : decode cX12_entry 145 = .ok (.aload_n 0, 1) := by decide +kernel
theorem dX12_entry_146 : decode cX12_entry 146 = .ok (.getfield 7, 3) := by decide +kernel
theorem dX12_entry_149 : decode cX12_entry 149 = .ok (.iload 6, 2) := by decide +kernel
theorem dX12_entry_151 : decode cX12_entry 151 = .ok (.iconst 4, 1) := by decide +kernel
theorem dX12_entry_152 : decode cX12_entry 152 = .ok (.iadd, 1) := by decide +kernel
theorem dX12_entry_153 : decode cX12_entry 153 = .ok (.iload 4, 2) := by decide +kernel
theorem dX12_entry_155 : decode cX12_entry 155 = .ok (.sipush 1000, 3) := by decide +kernel
theorem dX12_entry_158 : decode cX12_entry 158 = .ok (.irem, 1) := by decide +kernel
theorem dX12_entry_159 : decode cX12_entry 159 = .ok (.iastore, 1) := by decide +kernel
theorem dX12_entry_160 : decode cX12_entry 160 = .ok (.aload_n 0, 1) := by decide +kernel
theorem dX12_entry_161 : decode cX12_entry 161 = .ok (.getfield 7, 3) := by decide +kernel
theorem dX12_entry_164 : decode cX12_entry 164 = .ok (.iload 6, 2) := by decide +kernel
theorem dX12_entry_166 : decode cX12_entry 166 = .ok (.iconst 5, 1) := by decide +kernel
theorem dX12_entry_167 : decode cX12_entry 167 = .ok (.iadd, 1) := by decide +kernel
theorem dX12_entry_168 : decode cX12_entry 168 = .ok (.iload 5, 2) := by decide +kernel
theorem dX12_entry_170 : decode cX12_entry 170 = .ok (.iastore, 1) := by decide +kernel
theorem dX12_entry_171 : decode cX12_entry 171 = .ok (.aload_n 0, 1) := by decide +kernel
theorem dX12_entry_172 : decode cX12_entry 172 = .ok (.getfield 7, 3) := by decide +kernel
theorem dX12_entry_175 : decode cX12_entry 175 = .ok (.iload 6, 2) := by decide +kernel
theorem dX12_entry_177 : decode cX12_entry 177 = .ok (.bipush 6, 2) := by decide +kernel
theorem dX12_entry_179 : decode cX12_entry 179 = .ok (.iadd, 1) := by decide +kernel
theorem dX12_entry_180 : decode cX12_entry 180 = .ok (.aload_n 0, 1) := by decide +kernel
theorem dX12_entry_181 : decode cX12_entry 181 = .ok (.getfield 7, 3) := by decide +kernel
theorem dX12_entry_184 : decode cX12_entry 184 = .ok (.iconst 0, 1) := by decide +kernel
theorem dX12_entry_185 : decode cX12_entry 185 = .ok (.iaload, 1) := by decide +kernel
theorem dX12_entry_186 : decode cX12_entry 186 = .ok (.iastore, 1) := by decide +kernel
theorem dX12_entry_187 : decode cX12_entry 187 = .ok (.aload_n 0, 1) := by decide +kernel
theorem dX12_entry_188 : decode cX12_entry 188 = .ok (.getfield 7, 3) := by decide +kernel
theorem dX12_entry_191 : decode cX12_entry 191 = .ok (.iload 6, 2) := by decide +kernel
theorem dX12_entry_193 : decode cX12_entry 193 = .ok (.bipush 7, 2) := by decide +kernel
theorem dX12_entry_195 : decode cX12_entry 195 = .ok (.iadd, 1) := by decide +kernel
theorem dX12_entry_196 : decode cX12_entry 196 = .ok (.iconst (-1), 1) := by decide +kernel
theorem dX12_entry_197 : decode cX12_entry 197 = .ok (.iastore, 1) := by decide +kernel
theorem dX12_entry_198 : decode cX12_entry 198 = .ok (.aload_n 0, 1) := by decide +kernel
theorem dX12_entry_199 : decode cX12_entry 199 = .ok (.getfield 7, 3) := by decide +kernel
theorem dX12_entry_202 : decode cX12_entry 202 = .ok (.iload 6, 2) := by decide +kernel
theorem dX12_entry_204 : decode cX12_entry 204 = .ok (.bipush 8, 2) := by decide +kernel
theorem dX12_entry_206 : decode cX12_entry 206 = .ok (.iadd, 1) := by decide +kernel
theorem dX12_entry_207 : decode cX12_entry 207 = .ok (.iconst (-1), 1) := by decide +kernel
theorem dX12_entry_208 : decode cX12_entry 208 = .ok (.iastore, 1) := by decide +kernel
theorem dX12_entry_209 : decode cX12_entry 209 = .ok (.aload_n 0, 1) := by decide +kernel
theorem dX12_entry_210 : decode cX12_entry 210 = .ok (.getfield 7, 3) := by decide +kernel
theorem dX12_entry_213 : decode cX12_entry 213 = .ok (.iload 6, 2) := by decide +kernel
theorem dX12_entry_215 : decode cX12_entry 215 = .ok (.bipush 9, 2) := by decide +kernel
theorem dX12_entry_217 : decode cX12_entry 217 = .ok (.iadd, 1) := by decide +kernel
theorem dX12_entry_218 : decode cX12_entry 218 = .ok (.iconst 0, 1) := by decide +kernel
theorem dX12_entry_219 : decode cX12_entry 219 = .ok (.iastore, 1) := by decide +kernel
theorem dX12_entry_220 : decode cX12_entry 220 = .ok (.aload_n 0, 1) := by decide +kernel
theorem dX12_entry_221 : decode cX12_entry 221 = .ok (.getfield 7, 3) := by decide +kernel
theorem dX12_entry_224 : decode cX12_entry 224 = .ok (.iload 6, 2) := by decide +kernel
theorem dX12_entry_226 : decode cX12_entry 226 = .ok (.bipush 10, 2) := by decide +kernel
theorem dX12_entry_228 : decode cX12_entry 228 = .ok (.iadd, 1) := by decide +kernel
theorem dX12_entry_229 : decode cX12_entry 229 = .ok (.iconst (-1), 1) := by decide +kernel
theorem dX12_entry_230 : decode cX12_entry 230 = .ok (.iastore, 1) := by decide +kernel
theorem dX12_entry_231 : decode cX12_entry 231 = .ok (.aload_n 0, 1) := by decide +kernel
theorem dX12_entry_232 : decode cX12_entry 232 = .ok (.getfield 7, 3) := by decide +kernel
theorem dX12_entry_235 : decode cX12_entry 235 = .ok (.bipush 7, 2) := by decide +kernel
theorem dX12_entry_237 : decode cX12_entry 237 = .ok (.dup2, 1) := by decide +kernel
theorem dX12_entry_238 : decode cX12_entry 238 = .ok (.iaload, 1) := by decide +kernel
theorem dX12_entry_239 : decode cX12_entry 239 = .ok (.iconst 1, 1) := by decide +kernel
theorem dX12_entry_240 : decode cX12_entry 240 = .ok (.iadd, 1) := by decide +kernel
theorem dX12_entry_241 : decode cX12_entry 241 = .ok (.iastore, 1) := by decide +kernel
theorem dX12_entry_242 : decode cX12_entry 242 = .ok (.aload_n 0, 1) := by decide +kernel
theorem dX12_entry_243 : decode cX12_entry 243 = .ok (.getfield 7, 3) := by decide +kernel
theorem dX12_entry_246 : decode cX12_entry 246 = .ok (.bipush 7, 2) := by decide +kernel
theorem dX12_entry_248 : decode cX12_entry 248 = .ok (.iaload, 1) := by decide +kernel
theorem dX12_entry_249 : decode cX12_entry 249 = .ok (.iconst 1, 1) := by decide +kernel
theorem dX12_entry_250 : decode cX12_entry 250 = .ok (.isub, 1) := by decide +kernel
theorem dX12_entry_251 : decode cX12_entry 251 = .ok (.ireturn, 1) := by decide +kernel
theorem dX12_withdraw_0 : decode cX12_withdraw 0 = .ok (.aload_n 0, 1) := by decide +kernel
theorem dX12_withdraw_1 : decode cX12_withdraw 1 = .ok (.iload_n 1, 1) := by decide +kernel
theorem dX12_withdraw_2 : decode cX12_withdraw 2 = .ok (.invokevirtual 98, 3) := by decide +kernel
theorem dX12_withdraw_5 : decode cX12_withdraw 5 = .ok (.ifCond .ne 6, 3) := by decide +kernel
theorem dX12_withdraw_8 : decode cX12_withdraw 8 = .ok (.ldc 72, 2) := by decide +kernel
theorem dX12_withdraw_10 : decode cX12_withdraw 10 = .ok (.ireturn, 1) := by decide +kernel
theorem dX12_withdraw_11 : decode cX12_withdraw 11 = .ok (.sipush 250, 3) := by decide +kernel
theorem dX12_withdraw_14 : decode cX12_withdraw 14 = .ok (.bipush 12, 2) := by decide +kernel
theorem dX12_withdraw_16 : decode cX12_withdraw 16 = .ok (.iload_n 1, 1) := by decide +kernel
theorem dX12_withdraw_17 : decode cX12_withdraw 17 = .ok (.imul, 1) := by decide +kernel
theorem dX12_withdraw_18 : decode cX12_withdraw 18 = .ok (.iadd, 1) := by decide +kernel
theorem dX12_withdraw_19 : decode cX12_withdraw 19 = .ok (.istore_n 2, 1) := by decide +kernel
theorem dX12_withdraw_20 : decode cX12_withdraw 20 = .ok (.aload_n 0, 1) := by decide +kernel
theorem dX12_withdraw_21 : decode cX12_withdraw 21 = .ok (.getfield 7, 3) := by decide +kernel
theorem dX12_withdraw_24 : decode cX12_withdraw 24 = .ok (.iload_n 2, 1) := by decide +kernel
theorem dX12_withdraw_25 : decode cX12_withdraw 25 = .ok (.bipush 7, 2) := by decide +kernel
theorem dX12_withdraw_27 : decode cX12_withdraw 27 = .ok (.iadd, 1) := by decide +kernel
theorem dX12_withdraw_28 : decode cX12_withdraw 28 = .ok (.iaload, 1) := by decide +kernel
theorem dX12_withdraw_29 : decode cX12_withdraw 29 = .ok (.iconst (-1), 1) := by decide +kernel
theorem dX12_withdraw_30 : decode cX12_withdraw 30 = .ok (.if_icmp .ne 16, 3) := by decide +kernel
theorem dX12_withdraw_33 : decode cX12_withdraw 33 = .ok (.aload_n 0, 1) := by decide +kernel
theorem dX12_withdraw_34 : decode cX12_withdraw 34 = .ok (.getfield 7, 3) := by decide +kernel
theorem dX12_withdraw_37 : decode cX12_withdraw 37 = .ok (.iload_n 2, 1) := by decide +kernel
theorem dX12_withdraw_38 : decode cX12_withdraw 38 = .ok (.bipush 8, 2) := by decide +kernel
theorem dX12_withdraw_40 : decode cX12_withdraw 40 = .ok (.iadd, 1) := by decide +kernel
theorem dX12_withdraw_41 : decode cX12_withdraw 41 = .ok (.iaload, 1) := by decide +kernel
theorem dX12_withdraw_42 : decode cX12_withdraw 42 = .ok (.iconst (-1), 1) := by decide +kernel
theorem dX12_withdraw_43 : decode cX12_withdraw 43 = .ok (.if_icmp .eq 6, 3) := by decide +kernel
theorem dX12_withdraw_46 : decode cX12_withdraw 46 = .ok (.ldc 91, 2) := by decide +kernel
theorem dX12_withdraw_48 : decode cX12_withdraw 48 = .ok (.ireturn, 1) := by decide +kernel
theorem dX12_withdraw_49 : decode cX12_withdraw 49 = .ok (.aload_n 0, 1) := by decide +kernel
theorem dX12_withdraw_50 : decode cX12_withdraw 50 = .ok (.getfield 7, 3) := by decide +kernel
theorem dX12_withdraw_53 : decode cX12_withdraw 53 = .ok (.iload_n 2, 1) := by decide +kernel
theorem dX12_withdraw_54 : decode cX12_withdraw 54 = .ok (.bipush 7, 2) := by decide +kernel
theorem dX12_withdraw_56 : decode cX12_withdraw 56 = .ok (.iadd, 1) := by decide +kernel
theorem dX12_withdraw_57 : decode cX12_withdraw 57 = .ok (.aload_n 0, 1) := by decide +kernel
theorem dX12_withdraw_58 : decode cX12_withdraw 58 = .ok (.getfield 7, 3) := by decide +kernel
theorem dX12_withdraw_61 : decode cX12_withdraw 61 = .ok (.iconst 0, 1) := by decide +kernel
theorem dX12_withdraw_62 : decode cX12_withdraw 62 = .ok (.iaload, 1) := by decide +kernel
theorem dX12_withdraw_63 : decode cX12_withdraw 63 = .ok (.iastore, 1) := by decide +kernel
theorem dX12_withdraw_64 : decode cX12_withdraw 64 = .ok (.iconst 1, 1) := by decide +kernel
theorem dX12_withdraw_65 : decode cX12_withdraw 65 = .ok (.ireturn, 1) := by decide +kernel
theorem dX12_door_0 : decode cX12_door 0 = .ok (.aload_n 0, 1) := by decide +kernel
theorem dX12_door_1 : decode cX12_door 1 = .ok (.iload_n 1, 1) := by decide +kernel
theorem dX12_door_2 : decode cX12_door 2 = .ok (.invokevirtual 74, 3) := by decide +kernel
theorem dX12_door_5 : decode cX12_door 5 = .ok (.ifCond .eq 18, 3) := by decide +kernel
theorem dX12_door_8 : decode cX12_door 8 = .ok (.aload_n 0, 1) := by decide +kernel
theorem dX12_door_9 : decode cX12_door 9 = .ok (.iload_n 2, 1) := by decide +kernel
theorem dX12_door_10 : decode cX12_door 10 = .ok (.invokevirtual 92, 3) := by decide +kernel
theorem dX12_door_13 : decode cX12_door 13 = .ok (.ifCond .eq 10, 3) := by decide +kernel
theorem dX12_door_16 : decode cX12_door 16 = .ok (.iload_n 3, 1) := by decide +kernel
theorem dX12_door_17 : decode cX12_door 17 = .ok (.invokestatic 95, 3) := by decide +kernel
theorem dX12_door_20 : decode cX12_door 20 = .ok (.ifCond .ne 6, 3) := by decide +kernel
theorem dX12_door_23 : decode cX12_door 23 = .ok (.ldc 72, 2) := by decide +kernel
theorem dX12_door_25 : decode cX12_door 25 = .ok (.ireturn, 1) := by decide +kernel
theorem dX12_door_26 : decode cX12_door 26 = .ok (.aload_n 0, 1) := by decide +kernel
theorem dX12_door_27 : decode cX12_door 27 = .ok (.getfield 7, 3) := by decide +kernel
theorem dX12_door_30 : decode cX12_door 30 = .ok (.bipush 8, 2) := by decide +kernel
theorem dX12_door_32 : decode cX12_door 32 = .ok (.iaload, 1) := by decide +kernel
theorem dX12_door_33 : decode cX12_door 33 = .ok (.bipush 60, 2) := by decide +kernel
theorem dX12_door_35 : decode cX12_door 35 = .ok (.if_icmp .ne 6, 3) := by decide +kernel
theorem dX12_door_38 : decode cX12_door 38 = .ok (.ldc 73, 2) := by decide +kernel
theorem dX12_door_40 : decode cX12_door 40 = .ok (.ireturn, 1) := by decide +kernel
theorem dX12_door_41 : decode cX12_door 41 = .ok (.sipush 1330, 3) := by decide +kernel
theorem dX12_door_44 : decode cX12_door 44 = .ok (.iconst 5, 1) := by decide +kernel
theorem dX12_door_45 : decode cX12_door 45 = .ok (.aload_n 0, 1) := by decide +kernel
theorem dX12_door_46 : decode cX12_door 46 = .ok (.getfield 7, 3) := by decide +kernel
theorem dX12_door_49 : decode cX12_door 49 = .ok (.bipush 8, 2) := by decide +kernel
theorem dX12_door_51 : decode cX12_door 51 = .ok (.iaload, 1) := by decide +kernel
theorem dX12_door_52 : decode cX12_door 52 = .ok (.imul, 1) := by decide +kernel
theorem dX12_door_53 : decode cX12_door 53 = .ok (.iadd, 1) := by decide +kernel
theorem dX12_door_54 : decode cX12_door 54 = .ok (.istore 4, 2) := by decide +kernel
theorem dX12_door_56 : decode cX12_door 56 = .ok (.aload_n 0, 1) := by decide +kernel
theorem dX12_door_57 : decode cX12_door 57 = .ok (.getfield 7, 3) := by decide +kernel
theorem dX12_door_60 : decode cX12_door 60 = .ok (.iload 4, 2) := by decide +kernel
theorem dX12_door_62 : decode cX12_door 62 = .ok (.iload_n 1, 1) := by decide +kernel
theorem dX12_door_63 : decode cX12_door 63 = .ok (.iastore, 1) := by decide +kernel
theorem dX12_door_64 : decode cX12_door 64 = .ok (.aload_n 0, 1) := by decide +kernel
theorem dX12_door_65 : decode cX12_door 65 = .ok (.getfield 7, 3) := by decide +kernel
theorem dX12_door_68 : decode cX12_door 68 = .ok (.iload 4, 2) := by decide +kernel
theorem dX12_door_70 : decode cX12_door 70 = .ok (.iconst 1, 1) := by decide +kernel
theorem dX12_door_71 : decode cX12_door 71 = .ok (.iadd, 1) := by decide +kernel
theorem dX12_door_72 : decode cX12_door 72 = .ok (.iload_n 2, 1) := by decide +kernel
theorem dX12_door_73 : decode cX12_door 73 = .ok (.iastore, 1) := by decide +kernel
theorem dX12_door_74 : decode cX12_door 74 = .ok (.aload_n 0, 1) := by decide +kernel
theorem dX12_door_75 : decode cX12_door 75 = .ok (.getfield 7, 3) := by decide +kernel
theorem dX12_door_78 : decode cX12_door 78 = .ok (.iload 4, 2) := by decide +kernel
theorem dX12_door_80 : decode cX12_door 80 = .ok (.iconst 2, 1) := by decide +kernel
theorem dX12_door_81 : decode cX12_door 81 = .ok (.iadd, 1) := by decide +kernel
theorem dX12_door_82 : decode cX12_door 82 = .ok (.iload_n 3, 1) := by decide +kernel
theorem dX12_door_83 : decode cX12_door 83 = .ok (.sipush 1000, 3) := by decide +kernel
theorem dX12_door_86 : decode cX12_door 86 = .ok (.idiv, 1) := by decide +kernel
theorem dX12_door_87 : decode cX12_door 87 = .ok (.iastore, 1) := by decide +kernel
theorem dX12_door_88 : decode cX12_door 88 = .ok (.aload_n 0, 1) := by decide +kernel
theorem dX12_door_89 : decode cX12_door 89 = .ok (.getfield 7, 3) := by decide +kernel
theorem dX12_door_92 : decode cX12_door 92 = .ok (.iload 4, 2) := by decide +kernel
theorem dX12_door_94 : decode cX12_door 94 = .ok (.iconst 3, 1) := by decide +kernel
theorem dX12_door_95 : decode cX12_door 95 = .ok (.iadd, 1) := by decide +kernel
theorem dX12_door_96 : decode cX12_door 96 = .ok (.iload_n 3, 1) := by decide +kernel
theorem dX12_door_97 : decode cX12_door 97 = .ok (.sipush 1000, 3) := by decide +kernel
theorem dX12_door_100 : decode cX12_door 100 = .ok (.irem, 1) := by decide +kernel
theorem dX12_door_101 : decode cX12_door 101 = .ok (.iastore, 1) := by decide +kernel
theorem dX12_door_102 : decode cX12_door 102 = .ok (.aload_n 0, 1) := by decide +kernel
theorem dX12_door_103 : decode cX12_door 103 = .ok (.getfield 7, 3) := by decide +kernel
theorem dX12_door_106 : decode cX12_door 106 = .ok (.iload 4, 2) := by decide +kernel
theorem dX12_door_108 : decode cX12_door 108 = .ok (.iconst 4, 1) := by decide +kernel
theorem dX12_door_109 : decode cX12_door 109 = .ok (.iadd, 1) := by decide +kernel
theorem dX12_door_110 : decode cX12_door 110 = .ok (.aload_n 0, 1) := by decide +kernel
theorem dX12_door_111 : decode cX12_door 111 = .ok (.getfield 7, 3) := by decide +kernel
theorem dX12_door_114 : decode cX12_door 114 = .ok (.iconst 0, 1) := by decide +kernel
theorem dX12_door_115 : decode cX12_door 115 = .ok (.iaload, 1) := by decide +kernel
theorem dX12_door_116 : decode cX12_door 116 = .ok (.iastore, 1) := by decide +kernel
theorem dX12_door_117 : decode cX12_door 117 = .ok (.aload_n 0, 1) := by decide +kernel
theorem dX12_door_118 : decode cX12_door 118 = .ok (.getfield 7, 3) := by decide +kernel
theorem dX12_door_121 : decode cX12_door 121 = .ok (.bipush 8, 2) := by decide +kernel
theorem dX12_door_123 : decode cX12_door 123 = .ok (.dup2, 1) := by decide +kernel
theorem dX12_door_124 : decode cX12_door 124 = .ok (.iaload, 1) := by decide +kernel
theorem dX12_door_125 : decode cX12_door 125 = .ok (.iconst 1, 1) := by decide +kernel
theorem dX12_door_126 : decode cX12_door 126 = .ok (.iadd, 1) := by decide +kernel
theorem dX12_door_127 : decode cX12_door 127 = .ok (.iastore, 1) := by decide +kernel
theorem dX12_door_128 : decode cX12_door 128 = .ok (.aload_n 0, 1) := by decide +kernel
theorem dX12_door_129 : decode cX12_door 129 = .ok (.getfield 7, 3) := by decide +kernel
theorem dX12_door_132 : decode cX12_door 132 = .ok (.bipush 8, 2) := by decide +kernel
theorem dX12_door_134 : decode cX12_door 134 = .ok (.iaload, 1) := by decide +kernel
theorem dX12_door_135 : decode cX12_door 135 = .ok (.ireturn, 1) := by decide +kernel
theorem dX12_isKnown_0 : decode cX12_isKnown 0 = .ok (.sipush 250, 3) := by decide +kernel
theorem dX12_isKnown_3 : decode cX12_isKnown 3 = .ok (.bipush 12, 2) := by decide +kernel
theorem dX12_isKnown_5 : decode cX12_isKnown 5 = .ok (.iload_n 1, 1) := by decide +kernel
theorem dX12_isKnown_6 : decode cX12_isKnown 6 = .ok (.imul, 1) := by decide +kernel
theorem dX12_isKnown_7 : decode cX12_isKnown 7 = .ok (.iadd, 1) := by decide +kernel
theorem dX12_isKnown_8 : decode cX12_isKnown 8 = .ok (.istore_n 3, 1) := by decide +kernel
theorem dX12_isKnown_9 : decode cX12_isKnown 9 = .ok (.aload_n 0, 1) := by decide +kernel
theorem dX12_isKnown_10 : decode cX12_isKnown 10 = .ok (.getfield 7, 3) := by decide +kernel
theorem dX12_isKnown_13 : decode cX12_isKnown 13 = .ok (.iload_n 3, 1) := by decide +kernel
theorem dX12_isKnown_14 : decode cX12_isKnown 14 = .ok (.bipush 6, 2) := by decide +kernel
theorem dX12_isKnown_16 : decode cX12_isKnown 16 = .ok (.iadd, 1) := by decide +kernel
theorem dX12_isKnown_17 : decode cX12_isKnown 17 = .ok (.iaload, 1) := by decide +kernel
theorem dX12_isKnown_18 : decode cX12_isKnown 18 = .ok (.iload_n 2, 1) := by decide +kernel
theorem dX12_isKnown_19 : decode cX12_isKnown 19 = .ok (.if_icmp .gt 33, 3) := by decide +kernel
theorem dX12_isKnown_22 : decode cX12_isKnown 22 = .ok (.aload_n 0, 1) := by decide +kernel
theorem dX12_isKnown_23 : decode cX12_isKnown 23 = .ok (.getfield 7, 3) := by decide +kernel
theorem dX12_isKnown_26 : decode cX12_isKnown 26 = .ok (.iload_n 3, 1) := by decide +kernel
theorem dX12_isKnown_27 : decode cX12_isKnown 27 = .ok (.bipush 7, 2) := by decide +kernel
theorem dX12_isKnown_29 : decode cX12_isKnown 29 = .ok (.iadd, 1) := by decide +kernel
theorem dX12_isKnown_30 : decode cX12_isKnown 30 = .ok (.iaload, 1) := by decide +kernel
theorem dX12_isKnown_31 : decode cX12_isKnown 31 = .ok (.iconst (-1), 1) := by decide +kernel
theorem dX12_isKnown_32 : decode cX12_isKnown 32 = .ok (.if_icmp .eq 16, 3) := by decide +kernel
theorem dX12_isKnown_35 : decode cX12_isKnown 35 = .ok (.aload_n 0, 1) := by decide +kernel
theorem dX12_isKnown_36 : decode cX12_isKnown 36 = .ok (.getfield 7, 3) := by decide +kernel
theorem dX12_isKnown_39 : decode cX12_isKnown 39 = .ok (.iload_n 3, 1) := by decide +kernel
theorem dX12_isKnown_40 : decode cX12_isKnown 40 = .ok (.bipush 7, 2) := by decide +kernel
theorem dX12_isKnown_42 : decode cX12_isKnown 42 = .ok (.iadd, 1) := by decide +kernel
theorem dX12_isKnown_43 : decode cX12_isKnown 43 = .ok (.iaload, 1) := by decide +kernel
theorem dX12_isKnown_44 : decode cX12_isKnown 44 = .ok (.iload_n 2, 1) := by decide +kernel
theorem dX12_isKnown_45 : decode cX12_isKnown 45 = .ok (.if_icmp .le 7, 3) := by decide +kernel
theorem dX12_isKnown_48 : decode cX12_isKnown 48 = .ok (.iconst 1, 1) := by decide +kernel
theorem dX12_isKnown_49 : decode cX12_isKnown 49 = .ok (.goto 4, 3) := by decide +kernel
theorem dX12_isKnown_52 : decode cX12_isKnown 52 = .ok (.iconst 0, 1) := by decide +kernel
theorem dX12_isKnown_53 : decode cX12_isKnown 53 = .ok (.ireturn, 1) := by decide +kernel
theorem dX12_written_0 : decode cX12_written 0 = .ok (.aload_n 0, 1) := by decide +kernel
theorem dX12_written_1 : decode cX12_written 1 = .ok (.iload_n 1, 1) := by decide +kernel
theorem dX12_written_2 : decode cX12_written 2 = .ok (.invokevirtual 74, 3) := by decide +kernel
theorem dX12_written_5 : decode cX12_written 5 = .ok (.ifCond .eq 29, 3) := by decide +kernel
theorem dX12_written_8 : decode cX12_written 8 = .ok (.aload_n 0, 1) := by decide +kernel
theorem dX12_written_9 : decode cX12_written 9 = .ok (.iload_n 2, 1) := by decide +kernel
theorem dX12_written_10 : decode cX12_written 10 = .ok (.invokevirtual 92, 3) := by decide +kernel
theorem dX12_written_13 : decode cX12_written 13 = .ok (.ifCond .eq 21, 3) := by decide +kernel
theorem dX12_written_16 : decode cX12_written 16 = .ok (.aload_n 0, 1) := by decide +kernel
theorem dX12_written_17 : decode cX12_written 17 = .ok (.iload_n 3, 1) := by decide +kernel
theorem dX12_written_18 : decode cX12_written 18 = .ok (.invokevirtual 92, 3) := by decide +kernel
theorem dX12_written_21 : decode cX12_written 21 = .ok (.ifCond .eq 13, 3) := by decide +kernel
theorem dX12_written_24 : decode cX12_written 24 = .ok (.iload 4, 2) := by decide +kernel
theorem dX12_written_26 : decode cX12_written 26 = .ok (.iconst 0, 1) := by decide +kernel
theorem dX12_written_27 : decode cX12_written 27 = .ok (.iconst 3, 1) := by decide +kernel
theorem dX12_written_28 : decode cX12_written 28 = .ok (.invokestatic 68, 3) := by decide +kernel
theorem dX12_written_31 : decode cX12_written 31 = .ok (.ifCond .ne 6, 3) := by decide +kernel
theorem dX12_written_34 : decode cX12_written 34 = .ok (.ldc 72, 2) := by decide +kernel
theorem dX12_written_36 : decode cX12_written 36 = .ok (.ireturn, 1) := by decide +kernel
theorem dX12_written_37 : decode cX12_written 37 = .ok (.iconst 0, 1) := by decide +kernel
theorem dX12_written_38 : decode cX12_written 38 = .ok (.istore 5, 2) := by decide +kernel
theorem dX12_written_40 : decode cX12_written 40 = .ok (.iload 5, 2) := by decide +kernel
theorem dX12_written_42 : decode cX12_written 42 = .ok (.sipush 240, 3) := by decide +kernel
theorem dX12_written_45 : decode cX12_written 45 = .ok (.if_icmp .ge 25, 3) := by decide +kernel
theorem dX12_written_48 : decode cX12_written 48 = .ok (.aload_n 0, 1) := by decide +kernel
theorem dX12_written_49 : decode cX12_written 49 = .ok (.getfield 16, 3) := by decide +kernel
theorem dX12_written_52 : decode cX12_written 52 = .ok (.iload 5, 2) := by decide +kernel
theorem dX12_written_54 : decode cX12_written 54 = .ok (.iconst 0, 1) := by decide +kernel
theorem dX12_written_55 : decode cX12_written 55 = .ok (.iastore, 1) := by decide +kernel
theorem dX12_written_56 : decode cX12_written 56 = .ok (.aload_n 0, 1) := by decide +kernel
theorem dX12_written_57 : decode cX12_written 57 = .ok (.getfield 19, 3) := by decide +kernel
theorem dX12_written_60 : decode cX12_written 60 = .ok (.iload 5, 2) := by decide +kernel
theorem dX12_written_62 : decode cX12_written 62 = .ok (.iconst 0, 1) := by decide +kernel
theorem dX12_written_63 : decode cX12_written 63 = .ok (.iastore, 1) := by decide +kernel
theorem dX12_written_64 : decode cX12_written 64 = .ok (.iinc 5 1, 3) := by decide +kernel
theorem dX12_written_67 : decode cX12_written 67 = .ok (.goto (-27), 3) := by decide +kernel
theorem dX12_written_70 : decode cX12_written 70 = .ok (.iconst 0, 1) := by decide +kernel
theorem dX12_written_71 : decode cX12_written 71 = .ok (.istore 5, 2) := by decide +kernel
theorem dX12_written_73 : decode cX12_written 73 = .ok (.iconst 0, 1) := by decide +kernel
theorem dX12_written_74 : decode cX12_written 74 = .ok (.istore 6, 2) := by decide +kernel
theorem dX12_written_76 : decode cX12_written 76 = .ok (.iload 6, 2) := by decide +kernel
theorem dX12_written_78 : decode cX12_written 78 = .ok (.aload_n 0, 1) := by decide +kernel
theorem dX12_written_79 : decode cX12_written 79 = .ok (.getfield 7, 3) := by decide +kernel
theorem dX12_written_82 : decode cX12_written 82 = .ok (.bipush 7, 2) := by decide +kernel
theorem dX12_written_84 : decode cX12_written 84 = .ok (.iaload, 1) := by decide +kernel
theorem dX12_written_85 : decode cX12_written 85 = .ok (.if_icmp .ge 115, 3) := by decide +kernel
theorem dX12_written_88 : decode cX12_written 88 = .ok (.sipush 250, 3) := by decide +kernel
theorem dX12_written_91 : decode cX12_written 91 = .ok (.bipush 12, 2) := by decide +kernel
theorem dX12_written_93 : decode cX12_written 93 = .ok (.iload 6, 2) := by decide +kernel
theorem dX12_written_95 : decode cX12_written 95 = .ok (.imul, 1) := by decide +kernel
theorem dX12_written_96 : decode cX12_written 96 = .ok (.iadd, 1) := by decide +kernel
theorem dX12_written_97 : decode cX12_written 97 = .ok (.istore 7, 2) := by decide +kernel
theorem dX12_written_99 : decode cX12_written 99 = .ok (.aload_n 0, 1) := by decide +kernel
theorem dX12_written_100 : decode cX12_written 100 = .ok (.getfield 7, 3) := by decide +kernel
theorem dX12_written_103 : decode cX12_written 103 = .ok (.iload 7, 2) := by decide +kernel
theorem dX12_written_105 : decode cX12_written 105 = .ok (.iaload, 1) := by decide +kernel
theorem dX12_written_106 : decode cX12_written 106 = .ok (.iload_n 1, 1) := by decide +kernel
theorem dX12_written_107 : decode cX12_written 107 = .ok (.if_icmp .ne 87, 3) := by decide +kernel
theorem dX12_written_110 : decode cX12_written 110 = .ok (.aload_n 0, 1) := by decide +kernel
theorem dX12_written_111 : decode cX12_written 111 = .ok (.getfield 7, 3) := by decide +kernel
theorem dX12_written_114 : decode cX12_written 114 = .ok (.iload 7, 2) := by decide +kernel
theorem dX12_written_116 : decode cX12_written 116 = .ok (.iconst 2, 1) := by decide +kernel
theorem dX12_written_117 : decode cX12_written 117 = .ok (.iadd, 1) := by decide +kernel
theorem dX12_written_118 : decode cX12_written 118 = .ok (.iaload, 1) := by decide +kernel
theorem dX12_written_119 : decode cX12_written 119 = .ok (.iload_n 2, 1) := by decide +kernel
theorem dX12_written_120 : decode cX12_written 120 = .ok (.if_icmp .ne 74, 3) := by decide +kernel
theorem dX12_written_123 : decode cX12_written 123 = .ok (.aload_n 0, 1) := by decide +kernel
theorem dX12_written_124 : decode cX12_written 124 = .ok (.iload 6, 2) := by decide +kernel
theorem dX12_written_126 : decode cX12_written 126 = .ok (.iload_n 3, 1) := by decide +kernel
theorem dX12_written_127 : decode cX12_written 127 = .ok (.invokevirtual 101, 3) := by decide +kernel
theorem dX12_written_130 : decode cX12_written 130 = .ok (.ifCond .ne 6, 3) := by decide +kernel
theorem dX12_written_133 : decode cX12_written 133 = .ok (.goto 61, 3) := by decide +kernel
theorem dX12_written_136 : decode cX12_written 136 = .ok (.iload 5, 2) := by decide +kernel
theorem dX12_written_138 : decode cX12_written 138 = .ok (.aload_n 0, 1) := by decide +kernel
theorem dX12_written_139 : decode cX12_written 139 = .ok (.getfield 7, 3) := by decide +kernel
theorem dX12_written_142 : decode cX12_written 142 = .ok (.iload 7, 2) := by decide +kernel
theorem dX12_written_144 : decode cX12_written 144 = .ok (.iconst 4, 1) := by decide +kernel
theorem dX12_written_145 : decode cX12_written 145 = .ok (.iadd, 1) := by decide +kernel
theorem dX12_written_146 : decode cX12_written 146 = .ok (.iaload, 1) := by decide +kernel
theorem dX12_written_147 : decode cX12_written 147 = .ok (.iadd, 1) := by decide +kernel
theorem dX12_written_148 : decode cX12_written 148 = .ok (.istore 5, 2) := by decide +kernel
theorem dX12_written_150 : decode cX12_written 150 = .ok (.iconst 0, 1) := by decide +kernel
theorem dX12_written_151 : decode cX12_written 151 = .ok (.istore 8, 2) := by decide +kernel
theorem dX12_written_153 : decode cX12_written 153 = .ok (.iload 8, 2) := by decide +kernel
theorem dX12_written_155 : decode cX12_written 155 = .ok (.aload_n 0, 1) := by decide +kernel
theorem dX12_written_156 : decode cX12_written 156 = .ok (.getfield 7, 3) := by decide +kernel
theorem dX12_written_159 : decode cX12_written 159 = .ok (.iload 7, 2) := by decide +kernel
theorem dX12_written_161 : decode cX12_written 161 = .ok (.iconst 4, 1) := by decide +kernel
theorem dX12_written_162 : decode cX12_written 162 = .ok (.iadd, 1) := by decide +kernel
theorem dX12_written_163 : decode cX12_written 163 = .ok (.iaload, 1) := by decide +kernel
theorem dX12_written_164 : decode cX12_written 164 = .ok (.if_icmp .ge 30, 3) := by decide +kernel
theorem dX12_written_167 : decode cX12_written 167 = .ok (.aload_n 0, 1) := by decide +kernel
theorem dX12_written_168 : decode cX12_written 168 = .ok (.getfield 16, 3) := by decide +kernel
theorem dX12_written_171 : decode cX12_written 171 = .ok (.aload_n 0, 1) := by decide +kernel
theorem dX12_written_172 : decode cX12_written 172 = .ok (.getfield 7, 3) := by decide +kernel
theorem dX12_written_175 : decode cX12_written 175 = .ok (.iload 7, 2) := by decide +kernel
theorem dX12_written_177 : decode cX12_written 177 = .ok (.iconst 3, 1) := by decide +kernel
theorem dX12_written_178 : decode cX12_written 178 = .ok (.iadd, 1) := by decide +kernel
theorem dX12_written_179 : decode cX12_written 179 = .ok (.iaload, 1) := by decide +kernel
theorem dX12_written_180 : decode cX12_written 180 = .ok (.iload 8, 2) := by decide +kernel
theorem dX12_written_182 : decode cX12_written 182 = .ok (.iadd, 1) := by decide +kernel
theorem dX12_written_183 : decode cX12_written 183 = .ok (.dup2, 1) := by decide +kernel
theorem dX12_written_184 : decode cX12_written 184 = .ok (.iaload, 1) := by decide +kernel
theorem dX12_written_185 : decode cX12_written 185 = .ok (.iconst 1, 1) := by decide +kernel
theorem dX12_written_186 : decode cX12_written 186 = .ok (.iadd, 1) := by decide +kernel
theorem dX12_written_187 : decode cX12_written 187 = .ok (.iastore, 1) := by decide +kernel
theorem dX12_written_188 : decode cX12_written 188 = .ok (.iinc 8 1, 3) := by decide +kernel
theorem dX12_written_191 : decode cX12_written 191 = .ok (.goto (-38), 3) := by decide +kernel
theorem dX12_written_194 : decode cX12_written 194 = .ok (.iinc 6 1, 3) := by decide +kernel
theorem dX12_written_197 : decode cX12_written 197 = .ok (.goto (-121), 3) := by decide +kernel
theorem dX12_written_200 : decode cX12_written 200 = .ok (.iconst 0, 1) := by decide +kernel
theorem dX12_written_201 : decode cX12_written 201 = .ok (.istore 6, 2) := by decide +kernel
theorem dX12_written_203 : decode cX12_written 203 = .ok (.iconst 0, 1) := by decide +kernel
theorem dX12_written_204 : decode cX12_written 204 = .ok (.istore 7, 2) := by decide +kernel
theorem dX12_written_206 : decode cX12_written 206 = .ok (.iload 7, 2) := by decide +kernel
theorem dX12_written_208 : decode cX12_written 208 = .ok (.aload_n 0, 1) := by decide +kernel
theorem dX12_written_209 : decode cX12_written 209 = .ok (.getfield 7, 3) := by decide +kernel
theorem dX12_written_212 : decode cX12_written 212 = .ok (.bipush 8, 2) := by decide +kernel
theorem dX12_written_214 : decode cX12_written 214 = .ok (.iaload, 1) := by decide +kernel
theorem dX12_written_215 : decode cX12_written 215 = .ok (.if_icmp .ge 106, 3) := by decide +kernel
theorem dX12_written_218 : decode cX12_written 218 = .ok (.sipush 1330, 3) := by decide +kernel
theorem dX12_written_221 : decode cX12_written 221 = .ok (.iconst 5, 1) := by decide +kernel
theorem dX12_written_222 : decode cX12_written 222 = .ok (.iload 7, 2) := by decide +kernel
theorem dX12_written_224 : decode cX12_written 224 = .ok (.imul, 1) := by decide +kernel
theorem dX12_written_225 : decode cX12_written 225 = .ok (.iadd, 1) := by decide +kernel
theorem dX12_written_226 : decode cX12_written 226 = .ok (.istore 8, 2) := by decide +kernel
theorem dX12_written_228 : decode cX12_written 228 = .ok (.aload_n 0, 1) := by decide +kernel
theorem dX12_written_229 : decode cX12_written 229 = .ok (.getfield 7, 3) := by decide +kernel
theorem dX12_written_232 : decode cX12_written 232 = .ok (.iload 8, 2) := by decide +kernel
theorem dX12_written_234 : decode cX12_written 234 = .ok (.iaload, 1) := by decide +kernel
theorem dX12_written_235 : decode cX12_written 235 = .ok (.iload_n 1, 1) := by decide +kernel
theorem dX12_written_236 : decode cX12_written 236 = .ok (.if_icmp .ne 79, 3) := by decide +kernel
theorem dX12_written_239 : decode cX12_written 239 = .ok (.aload_n 0, 1) := by decide +kernel
theorem dX12_written_240 : decode cX12_written 240 = .ok (.getfield 7, 3) := by decide +kernel
theorem dX12_written_243 : decode cX12_written 243 = .ok (.iload 8, 2) := by decide +kernel
theorem dX12_written_245 : decode cX12_written 245 = .ok (.iconst 1, 1) := by decide +kernel
theorem dX12_written_246 : decode cX12_written 246 = .ok (.iadd, 1) := by decide +kernel
theorem dX12_written_247 : decode cX12_written 247 = .ok (.iaload, 1) := by decide +kernel
theorem dX12_written_248 : decode cX12_written 248 = .ok (.iload_n 2, 1) := by decide +kernel
theorem dX12_written_249 : decode cX12_written 249 = .ok (.if_icmp .ne 66, 3) := by decide +kernel
theorem dX12_written_252 : decode cX12_written 252 = .ok (.aload_n 0, 1) := by decide +kernel
theorem dX12_written_253 : decode cX12_written 253 = .ok (.getfield 7, 3) := by decide +kernel
theorem dX12_written_256 : decode cX12_written 256 = .ok (.iload 8, 2) := by decide +kernel
theorem dX12_written_258 : decode cX12_written 258 = .ok (.iconst 4, 1) := by decide +kernel
theorem dX12_written_259 : decode cX12_written 259 = .ok (.iadd, 1) := by decide +kernel
theorem dX12_written_260 : decode cX12_written 260 = .ok (.iaload, 1) := by decide +kernel
theorem dX12_written_261 : decode cX12_written 261 = .ok (.iload_n 3, 1) := by decide +kernel
theorem dX12_written_262 : decode cX12_written 262 = .ok (.if_icmp .le 6, 3) := by decide +kernel
theorem dX12_written_265 : decode cX12_written 265 = .ok (.goto 50, 3) := by decide +kernel
theorem dX12_written_268 : decode cX12_written 268 = .ok (.iinc 6 1, 3) := by decide +kernel
theorem dX12_written_271 : decode cX12_written 271 = .ok (.iconst 0, 1) := by decide +kernel
theorem dX12_written_272 : decode cX12_written 272 = .ok (.istore 9, 2) := by decide +kernel
theorem dX12_written_274 : decode cX12_written 274 = .ok (.iload 9, 2) := by decide +kernel
theorem dX12_written_276 : decode cX12_written 276 = .ok (.aload_n 0, 1) := by decide +kernel
theorem dX12_written_277 : decode cX12_written 277 = .ok (.getfield 7, 3) := by decide +kernel
theorem dX12_written_280 : decode cX12_written 280 = .ok (.iload 8, 2) := by decide +kernel
theorem dX12_written_282 : decode cX12_written 282 = .ok (.iconst 3, 1) := by decide +kernel
theorem dX12_written_283 : decode cX12_written 283 = .ok (.iadd, 1) := by decide +kernel
theorem dX12_written_284 : decode cX12_written 284 = .ok (.iaload, 1) := by decide +kernel
theorem dX12_written_285 : decode cX12_written 285 = .ok (.if_icmp .ge 30, 3) := by decide +kernel
theorem dX12_written_288 : decode cX12_written 288 = .ok (.aload_n 0, 1) := by decide +kernel
theorem dX12_written_289 : decode cX12_written 289 = .ok (.getfield 19, 3) := by decide +kernel
theorem dX12_written_292 : decode cX12_written 292 = .ok (.aload_n 0, 1) := by decide +kernel
theorem dX12_written_293 : decode cX12_written 293 = .ok (.getfield 7, 3) := by decide +kernel
theorem dX12_written_296 : decode cX12_written 296 = .ok (.iload 8, 2) := by decide +kernel
theorem dX12_written_298 : decode cX12_written 298 = .ok (.iconst 2, 1) := by decide +kernel
theorem dX12_written_299 : decode cX12_written 299 = .ok (.iadd, 1) := by decide +kernel
theorem dX12_written_300 : decode cX12_written 300 = .ok (.iaload, 1) := by decide +kernel
theorem dX12_written_301 : decode cX12_written 301 = .ok (.iload 9, 2) := by decide +kernel
theorem dX12_written_303 : decode cX12_written 303 = .ok (.iadd, 1) := by decide +kernel
theorem dX12_written_304 : decode cX12_written 304 = .ok (.dup2, 1) := by decide +kernel
theorem dX12_written_305 : decode cX12_written 305 = .ok (.iaload, 1) := by decide +kernel
theorem dX12_written_306 : decode cX12_written 306 = .ok (.iconst 1, 1) := by decide +kernel
theorem dX12_written_307 : decode cX12_written 307 = .ok (.iadd, 1) := by decide +kernel
theorem dX12_written_308 : decode cX12_written 308 = .ok (.iastore, 1) := by decide +kernel
theorem dX12_written_309 : decode cX12_written 309 = .ok (.iinc 9 1, 3) := by decide +kernel
theorem dX12_written_312 : decode cX12_written 312 = .ok (.goto (-38), 3) := by decide +kernel
theorem dX12_written_315 : decode cX12_written 315 = .ok (.iinc 7 1, 3) := by decide +kernel
theorem dX12_written_318 : decode cX12_written 318 = .ok (.goto (-112), 3) := by decide +kernel
theorem dX12_written_321 : decode cX12_written 321 = .ok (.iconst 0, 1) := by decide +kernel
theorem dX12_written_322 : decode cX12_written 322 = .ok (.istore 7, 2) := by decide +kernel
theorem dX12_written_324 : decode cX12_written 324 = .ok (.iconst 0, 1) := by decide +kernel
theorem dX12_written_325 : decode cX12_written 325 = .ok (.istore 8, 2) := by decide +kernel
theorem dX12_written_327 : decode cX12_written 327 = .ok (.iconst 0, 1) := by decide +kernel
theorem dX12_written_328 : decode cX12_written 328 = .ok (.istore 9, 2) := by decide +kernel
theorem dX12_written_330 : decode cX12_written 330 = .ok (.iload 9, 2) := by decide +kernel
theorem dX12_written_332 : decode cX12_written 332 = .ok (.sipush 240, 3) := by decide +kernel
theorem dX12_written_335 : decode cX12_written 335 = .ok (.if_icmp .ge 65, 3) := by decide +kernel
theorem dX12_written_338 : decode cX12_written 338 = .ok (.iload 7, 2) := by decide +kernel
theorem dX12_written_340 : decode cX12_written 340 = .ok (.aload_n 0, 1) := by decide +kernel
theorem dX12_written_341 : decode cX12_written 341 = .ok (.getfield 16, 3) := by decide +kernel
theorem dX12_written_344 : decode cX12_written 344 = .ok (.iload 9, 2) := by decide +kernel
theorem dX12_written_346 : decode cX12_written 346 = .ok (.iaload, 1) := by decide +kernel
theorem dX12_written_347 : decode cX12_written 347 = .ok (.iconst 1, 1) := by decide +kernel
theorem dX12_written_348 : decode cX12_written 348 = .ok (.if_icmp .le 7, 3) := by decide +kernel
theorem dX12_written_351 : decode cX12_written 351 = .ok (.iconst 1, 1) := by decide +kernel
theorem dX12_written_352 : decode cX12_written 352 = .ok (.goto 4, 3) := by decide +kernel
theorem dX12_written_355 : decode cX12_written 355 = .ok (.iconst 0, 1) := by decide +kernel
theorem dX12_written_356 : decode cX12_written 356 = .ok (.iadd, 1) := by decide +kernel
theorem dX12_written_357 : decode cX12_written 357 = .ok (.istore 7, 2) := by decide +kernel
theorem dX12_written_359 : decode cX12_written 359 = .ok (.iload 8, 2) := by decide +kernel
theorem dX12_written_361 : decode cX12_written 361 = .ok (.iload 6, 2) := by decide +kernel
theorem dX12_written_363 : decode cX12_written 363 = .ok (.ifCond .le 27, 3) := by decide +kernel
theorem dX12_written_366 : decode cX12_written 366 = .ok (.aload_n 0, 1) := by decide +kernel
theorem dX12_written_367 : decode cX12_written 367 = .ok (.getfield 16, 3) := by decide +kernel
theorem dX12_written_370 : decode cX12_written 370 = .ok (.iload 9, 2) := by decide +kernel
theorem dX12_written_372 : decode cX12_written 372 = .ok (.iaload, 1) := by decide +kernel
theorem dX12_written_373 : decode cX12_written 373 = .ok (.ifCond .le 17, 3) := by decide +kernel
theorem dX12_written_376 : decode cX12_written 376 = .ok (.aload_n 0, 1) := by decide +kernel
theorem dX12_written_377 : decode cX12_written 377 = .ok (.getfield 19, 3) := by decide +kernel
theorem dX12_written_380 : decode cX12_written 380 = .ok (.iload 9, 2) := by decide +kernel
theorem dX12_written_382 : decode cX12_written 382 = .ok (.iaload, 1) := by decide +kernel
theorem dX12_written_383 : decode cX12_written 383 = .ok (.ifCond .ne 7, 3) := by decide +kernel
theorem dX12_written_386 : decode cX12_written 386 = .ok (.iconst 1, 1) := by decide +kernel
theorem dX12_written_387 : decode cX12_written 387 = .ok (.goto 4, 3) := by decide +kernel
theorem dX12_written_390 : decode cX12_written 390 = .ok (.iconst 0, 1) := by decide +kernel
theorem dX12_written_391 : decode cX12_written 391 = .ok (.iadd, 1) := by decide +kernel
theorem dX12_written_392 : decode cX12_written 392 = .ok (.istore 8, 2) := by decide +kernel
theorem dX12_written_394 : decode cX12_written 394 = .ok (.iinc 9 1, 3) := by decide +kernel
theorem dX12_written_397 : decode cX12_written 397 = .ok (.goto (-67), 3) := by decide +kernel
theorem dX12_written_400 : decode cX12_written 400 = .ok (.iload 4, 2) := by decide +kernel
theorem dX12_written_402 : decode cX12_written 402 = .ok (.ifCond .ne 8, 3) := by decide +kernel
theorem dX12_written_405 : decode cX12_written 405 = .ok (.iload 5, 2) := by decide +kernel
theorem dX12_written_407 : decode cX12_written 407 = .ok (.goto 38, 3) := by decide +kernel
theorem dX12_written_410 : decode cX12_written 410 = .ok (.iload 4, 2) := by decide +kernel
theorem dX12_written_412 : decode cX12_written 412 = .ok (.iconst 1, 1) := by decide +kernel
theorem dX12_written_413 : decode cX12_written 413 = .ok (.if_icmp .ne 19, 3) := by decide +kernel
theorem dX12_written_416 : decode cX12_written 416 = .ok (.iconst 0, 1) := by decide +kernel
theorem dX12_written_417 : decode cX12_written 417 = .ok (.iload 5, 2) := by decide +kernel
theorem dX12_written_419 : decode cX12_written 419 = .ok (.aload_n 0, 1) := by decide +kernel
theorem dX12_written_420 : decode cX12_written 420 = .ok (.getfield 7, 3) := by decide +kernel
theorem dX12_written_423 : decode cX12_written 423 = .ok (.iconst 1, 1) := by decide +kernel
theorem dX12_written_424 : decode cX12_written 424 = .ok (.iaload, 1) := by decide +kernel
theorem dX12_written_425 : decode cX12_written 425 = .ok (.isub, 1) := by decide +kernel
theorem dX12_written_426 : decode cX12_written 426 = .ok (.invokestatic 105, 3) := by decide +kernel
theorem dX12_written_429 : decode cX12_written 429 = .ok (.goto 16, 3) := by decide +kernel
theorem dX12_written_432 : decode cX12_written 432 = .ok (.iload 4, 2) := by decide +kernel
theorem dX12_written_434 : decode cX12_written 434 = .ok (.iconst 2, 1) := by decide +kernel
theorem dX12_written_435 : decode cX12_written 435 = .ok (.if_icmp .ne 8, 3) := by decide +kernel
theorem dX12_written_438 : decode cX12_written 438 = .ok (.iload 7, 2) := by decide +kernel
theorem dX12_written_440 : decode cX12_written 440 = .ok (.goto 5, 3) := by decide +kernel
theorem dX12_written_443 : decode cX12_written 443 = .ok (.iload 8, 2) := by decide +kernel
theorem dX12_written_445 : decode cX12_written 445 = .ok (.ireturn, 1) := by decide +kernel
theorem dX12_told_0 : decode cX12_told 0 = .ok (.aload_n 0, 1) := by decide +kernel
theorem dX12_told_1 : decode cX12_told 1 = .ok (.iload_n 1, 1) := by decide +kernel
theorem dX12_told_2 : decode cX12_told 2 = .ok (.invokevirtual 98, 3) := by decide +kernel
theorem dX12_told_5 : decode cX12_told 5 = .ok (.ifCond .eq 13, 3) := by decide +kernel
theorem dX12_told_8 : decode cX12_told 8 = .ok (.iload_n 2, 1) := by decide +kernel
theorem dX12_told_9 : decode cX12_told 9 = .ok (.iconst 0, 1) := by decide +kernel
theorem dX12_told_10 : decode cX12_told 10 = .ok (.bipush 10, 2) := by decide +kernel
theorem dX12_told_12 : decode cX12_told 12 = .ok (.invokestatic 68, 3) := by decide +kernel
theorem dX12_told_15 : decode cX12_told 15 = .ok (.ifCond .ne 6, 3) := by decide +kernel
theorem dX12_told_18 : decode cX12_told 18 = .ok (.ldc 72, 2) := by decide +kernel
theorem dX12_told_20 : decode cX12_told 20 = .ok (.ireturn, 1) := by decide +kernel
theorem dX12_told_21 : decode cX12_told 21 = .ok (.aload_n 0, 1) := by decide +kernel
theorem dX12_told_22 : decode cX12_told 22 = .ok (.getfield 7, 3) := by decide +kernel
theorem dX12_told_25 : decode cX12_told 25 = .ok (.sipush 250, 3) := by decide +kernel
theorem dX12_told_28 : decode cX12_told 28 = .ok (.bipush 12, 2) := by decide +kernel
theorem dX12_told_30 : decode cX12_told 30 = .ok (.iload_n 1, 1) := by decide +kernel
theorem dX12_told_31 : decode cX12_told 31 = .ok (.imul, 1) := by decide +kernel
theorem dX12_told_32 : decode cX12_told 32 = .ok (.iadd, 1) := by decide +kernel
theorem dX12_told_33 : decode cX12_told 33 = .ok (.iload_n 2, 1) := by decide +kernel
theorem dX12_told_34 : decode cX12_told 34 = .ok (.iadd, 1) := by decide +kernel
theorem dX12_told_35 : decode cX12_told 35 = .ok (.iaload, 1) := by decide +kernel
theorem dX12_told_36 : decode cX12_told 36 = .ok (.istore_n 3, 1) := by decide +kernel
theorem dX12_told_37 : decode cX12_told 37 = .ok (.iload_n 2, 1) := by decide +kernel
theorem dX12_told_38 : decode cX12_told 38 = .ok (.bipush 7, 2) := by decide +kernel
theorem dX12_told_40 : decode cX12_told 40 = .ok (.if_icmp .eq 15, 3) := by decide +kernel
theorem dX12_told_43 : decode cX12_told 43 = .ok (.iload_n 2, 1) := by decide +kernel
theorem dX12_told_44 : decode cX12_told 44 = .ok (.bipush 8, 2) := by decide +kernel
theorem dX12_told_46 : decode cX12_told 46 = .ok (.if_icmp .eq 9, 3) := by decide +kernel
theorem dX12_told_49 : decode cX12_told 49 = .ok (.iload_n 2, 1) := by decide +kernel
theorem dX12_told_50 : decode cX12_told 50 = .ok (.bipush 10, 2) := by decide +kernel
theorem dX12_told_52 : decode cX12_told 52 = .ok (.if_icmp .ne 10, 3) := by decide +kernel
theorem dX12_told_55 : decode cX12_told 55 = .ok (.iload_n 3, 1) := by decide +kernel
theorem dX12_told_56 : decode cX12_told 56 = .ok (.invokestatic 109, 3) := by decide +kernel
theorem dX12_told_59 : decode cX12_told 59 = .ok (.goto 4, 3) := by decide +kernel
theorem dX12_told_62 : decode cX12_told 62 = .ok (.iload_n 3, 1) := by decide +kernel
theorem dX12_told_63 : decode cX12_told 63 = .ok (.ireturn, 1) := by decide +kernel
theorem dX12_feed_0 : decode cX12_feed 0 = .ok (.aload_n 0, 1) := by decide +kernel
theorem dX12_feed_1 : decode cX12_feed 1 = .ok (.getfield 113, 3) := by decide +kernel
theorem dX12_feed_4 : decode cX12_feed 4 = .ok (.bipush 12, 2) := by decide +kernel
theorem dX12_feed_6 : decode cX12_feed 6 = .ok (.iadd, 1) := by decide +kernel
theorem dX12_feed_7 : decode cX12_feed 7 = .ok (.bipush 120, 2) := by decide +kernel
theorem dX12_feed_9 : decode cX12_feed 9 = .ok (.if_icmp .le 6, 3) := by decide +kernel
theorem dX12_feed_12 : decode cX12_feed 12 = .ok (.ldc 73, 2) := by decide +kernel
theorem dX12_feed_14 : decode cX12_feed 14 = .ok (.ireturn, 1) := by decide +kernel
theorem dX12_feed_15 : decode cX12_feed 15 = .ok (.iconst 0, 1) := by decide +kernel
theorem dX12_feed_16 : decode cX12_feed 16 = .ok (.istore 4, 2) := by decide +kernel
theorem dX12_feed_18 : decode cX12_feed 18 = .ok (.iload 4, 2) := by decide +kernel
theorem dX12_feed_20 : decode cX12_feed 20 = .ok (.bipush 12, 2) := by decide +kernel
theorem dX12_feed_22 : decode cX12_feed 22 = .ok (.if_icmp .ge 62, 3) := by decide +kernel
theorem dX12_feed_25 : decode cX12_feed 25 = .ok (.iload 4, 2) := by decide +kernel
theorem dX12_feed_27 : decode cX12_feed 27 = .ok (.iconst 4, 1) := by decide +kernel
theorem dX12_feed_28 : decode cX12_feed 28 = .ok (.if_icmp .ge 7, 3) := by decide +kernel
theorem dX12_feed_31 : decode cX12_feed 31 = .ok (.iload_n 1, 1) := by decide +kernel
theorem dX12_feed_32 : decode cX12_feed 32 = .ok (.goto 15, 3) := by decide +kernel
theorem dX12_feed_35 : decode cX12_feed 35 = .ok (.iload 4, 2) := by decide +kernel
theorem dX12_feed_37 : decode cX12_feed 37 = .ok (.bipush 8, 2) := by decide +kernel
theorem dX12_feed_39 : decode cX12_feed 39 = .ok (.if_icmp .ge 7, 3) := by decide +kernel
theorem dX12_feed_42 : decode cX12_feed 42 = .ok (.iload_n 2, 1) := by decide +kernel
theorem dX12_feed_43 : decode cX12_feed 43 = .ok (.goto 4, 3) := by decide +kernel
theorem dX12_feed_46 : decode cX12_feed 46 = .ok (.iload_n 3, 1) := by decide +kernel
theorem dX12_feed_47 : decode cX12_feed 47 = .ok (.istore 5, 2) := by decide +kernel
theorem dX12_feed_49 : decode cX12_feed 49 = .ok (.aload_n 0, 1) := by decide +kernel
theorem dX12_feed_50 : decode cX12_feed 50 = .ok (.getfield 22, 3) := by decide +kernel
theorem dX12_feed_53 : decode cX12_feed 53 = .ok (.aload_n 0, 1) := by decide +kernel
theorem dX12_feed_54 : decode cX12_feed 54 = .ok (.getfield 113, 3) := by decide +kernel
theorem dX12_feed_57 : decode cX12_feed 57 = .ok (.iload 4, 2) := by decide +kernel
theorem dX12_feed_59 : decode cX12_feed 59 = .ok (.iadd, 1) := by decide +kernel
theorem dX12_feed_60 : decode cX12_feed 60 = .ok (.iload 5, 2) := by decide +kernel
theorem dX12_feed_62 : decode cX12_feed 62 = .ok (.bipush 24, 2) := by decide +kernel
theorem dX12_feed_64 : decode cX12_feed 64 = .ok (.iload 4, 2) := by decide +kernel
theorem dX12_feed_66 : decode cX12_feed 66 = .ok (.iconst 4, 1) := by decide +kernel
theorem dX12_feed_67 : decode cX12_feed 67 = .ok (.irem, 1) := by decide +kernel
theorem dX12_feed_68 : decode cX12_feed 68 = .ok (.bipush 8, 2) := by decide +kernel
theorem dX12_feed_70 : decode cX12_feed 70 = .ok (.imul, 1) := by decide +kernel
theorem dX12_feed_71 : decode cX12_feed 71 = .ok (.isub, 1) := by decide +kernel
theorem dX12_feed_72 : decode cX12_feed 72 = .ok (.ishr, 1) := by decide +kernel
theorem dX12_feed_73 : decode cX12_feed 73 = .ok (.sipush 255, 3) := by decide +kernel
theorem dX12_feed_76 : decode cX12_feed 76 = .ok (.iand, 1) := by decide +kernel
theorem dX12_feed_77 : decode cX12_feed 77 = .ok (.iastore, 1) := by decide +kernel
theorem dX12_feed_78 : decode cX12_feed 78 = .ok (.iinc 4 1, 3) := by decide +kernel
theorem dX12_feed_81 : decode cX12_feed 81 = .ok (.goto (-63), 3) := by decide +kernel
theorem dX12_feed_84 : decode cX12_feed 84 = .ok (.aload_n 0, 1) := by decide +kernel
theorem dX12_feed_85 : decode cX12_feed 85 = .ok (.dup, 1) := by decide +kernel
theorem dX12_feed_86 : decode cX12_feed 86 = .ok (.getfield 113, 3) := by decide +kernel
theorem dX12_feed_89 : decode cX12_feed 89 = .ok (.bipush 12, 2) := by decide +kernel
theorem dX12_feed_91 : decode cX12_feed 91 = .ok (.iadd, 1) := by decide +kernel
theorem dX12_feed_92 : decode cX12_feed 92 = .ok (.putfield 113, 3) := by decide +kernel
theorem dX12_feed_95 : decode cX12_feed 95 = .ok (.aload_n 0, 1) := by decide +kernel
theorem dX12_feed_96 : decode cX12_feed 96 = .ok (.getfield 113, 3) := by decide +kernel
theorem dX12_feed_99 : decode cX12_feed 99 = .ok (.ireturn, 1) := by decide +kernel
theorem dX12_trim_0 : decode cX12_trim 0 = .ok (.iload_n 1, 1) := by decide +kernel
theorem dX12_trim_1 : decode cX12_trim 1 = .ok (.iconst 0, 1) := by decide +kernel
theorem dX12_trim_2 : decode cX12_trim 2 = .ok (.aload_n 0, 1) := by decide +kernel
theorem dX12_trim_3 : decode cX12_trim 3 = .ok (.getfield 113, 3) := by decide +kernel
theorem dX12_trim_6 : decode cX12_trim 6 = .ok (.invokestatic 68, 3) := by decide +kernel
theorem dX12_trim_9 : decode cX12_trim 9 = .ok (.ifCond .ne 6, 3) := by decide +kernel
theorem dX12_trim_12 : decode cX12_trim 12 = .ok (.ldc 72, 2) := by decide +kernel
theorem dX12_trim_14 : decode cX12_trim 14 = .ok (.ireturn, 1) := by decide +kernel
theorem dX12_trim_15 : decode cX12_trim 15 = .ok (.aload_n 0, 1) := by decide +kernel
theorem dX12_trim_16 : decode cX12_trim 16 = .ok (.iload_n 1, 1) := by decide +kernel
theorem dX12_trim_17 : decode cX12_trim 17 = .ok (.putfield 113, 3) := by decide +kernel
theorem dX12_trim_20 : decode cX12_trim 20 = .ok (.iload_n 1, 1) := by decide +kernel
theorem dX12_trim_21 : decode cX12_trim 21 = .ok (.ireturn, 1) := by decide +kernel
theorem dX12_wrong_0 : decode cX12_wrong 0 = .ok (.aload_n 0, 1) := by decide +kernel
theorem dX12_wrong_1 : decode cX12_wrong 1 = .ok (.getfield 117, 3) := by decide +kernel
theorem dX12_wrong_4 : decode cX12_wrong 4 = .ok (.ifCond .ne 11, 3) := by decide +kernel
theorem dX12_wrong_7 : decode cX12_wrong 7 = .ok (.aload_n 0, 1) := by decide +kernel
theorem dX12_wrong_8 : decode cX12_wrong 8 = .ok (.aload_n 0, 1) := by decide +kernel
theorem dX12_wrong_9 : decode cX12_wrong 9 = .ok (.getfield 121, 3) := by decide +kernel
theorem dX12_wrong_12 : decode cX12_wrong 12 = .ok (.putfield 124, 3) := by decide +kernel
theorem dX12_wrong_15 : decode cX12_wrong 15 = .ok (.aload_n 0, 1) := by decide +kernel
theorem dX12_wrong_16 : decode cX12_wrong 16 = .ok (.iconst 1, 1) := by decide +kernel
theorem dX12_wrong_17 : decode cX12_wrong 17 = .ok (.putfield 117, 3) := by decide +kernel
theorem dX12_wrong_20 : decode cX12_wrong 20 = .ok (.return_, 1) := by decide +kernel
theorem dX12_sortOf_0 : decode cX12_sortOf 0 = .ok (.iload_n 0, 1) := by decide +kernel
theorem dX12_sortOf_1 : decode cX12_sortOf 1 = .ok (.bipush 97, 2) := by decide +kernel
theorem dX12_sortOf_3 : decode cX12_sortOf 3 = .ok (.bipush 122, 2) := by decide +kernel
theorem dX12_sortOf_5 : decode cX12_sortOf 5 = .ok (.invokestatic 68, 3) := by decide +kernel
theorem dX12_sortOf_8 : decode cX12_sortOf 8 = .ok (.ifCond .eq 7, 3) := by decide +kernel
theorem dX12_sortOf_11 : decode cX12_sortOf 11 = .ok (.iconst 1, 1) := by decide +kernel
theorem dX12_sortOf_12 : decode cX12_sortOf 12 = .ok (.goto 19, 3) := by decide +kernel
theorem dX12_sortOf_15 : decode cX12_sortOf 15 = .ok (.iload_n 0, 1) := by decide +kernel
theorem dX12_sortOf_16 : decode cX12_sortOf 16 = .ok (.bipush 48, 2) := by decide +kernel
theorem dX12_sortOf_18 : decode cX12_sortOf 18 = .ok (.bipush 57, 2) := by decide +kernel
theorem dX12_sortOf_20 : decode cX12_sortOf 20 = .ok (.invokestatic 68, 3) := by decide +kernel
theorem dX12_sortOf_23 : decode cX12_sortOf 23 = .ok (.ifCond .eq 7, 3) := by decide +kernel
theorem dX12_sortOf_26 : decode cX12_sortOf 26 = .ok (.iconst 2, 1) := by decide +kernel
theorem dX12_sortOf_27 : decode cX12_sortOf 27 = .ok (.goto 4, 3) := by decide +kernel
theorem dX12_sortOf_30 : decode cX12_sortOf 30 = .ok (.iconst 3, 1) := by decide +kernel
theorem dX12_sortOf_31 : decode cX12_sortOf 31 = .ok (.ireturn, 1) := by decide +kernel
theorem dX12_next_0 : decode cX12_next 0 = .ok (.aload_n 0, 1) := by decide +kernel
theorem dX12_next_1 : decode cX12_next 1 = .ok (.getfield 117, 3) := by decide +kernel
theorem dX12_next_4 : decode cX12_next 4 = .ok (.ifCond .eq 4, 3) := by decide +kernel
theorem dX12_next_7 : decode cX12_next 7 = .ok (.return_, 1) := by decide +kernel
theorem dX12_next_8 : decode cX12_next 8 = .ok (.aload_n 0, 1) := by decide +kernel
theorem dX12_next_9 : decode cX12_next 9 = .ok (.getfield 127, 3) := by decide +kernel
theorem dX12_next_12 : decode cX12_next 12 = .ok (.istore_n 1, 1) := by decide +kernel
theorem dX12_next_13 : decode cX12_next 13 = .ok (.aload_n 0, 1) := by decide +kernel
theorem dX12_next_14 : decode cX12_next 14 = .ok (.aload_n 0, 1) := by decide +kernel
theorem dX12_next_15 : decode cX12_next 15 = .ok (.getfield 127, 3) := by decide +kernel
theorem dX12_next_18 : decode cX12_next 18 = .ok (.putfield 121, 3) := by decide +kernel
theorem dX12_next_21 : decode cX12_next 21 = .ok (.aload_n 0, 1) := by decide +kernel
theorem dX12_next_22 : decode cX12_next 22 = .ok (.getfield 121, 3) := by decide +kernel
theorem dX12_next_25 : decode cX12_next 25 = .ok (.aload_n 0, 1) := by decide +kernel
theorem dX12_next_26 : decode cX12_next 26 = .ok (.getfield 130, 3) := by decide +kernel
theorem dX12_next_29 : decode cX12_next 29 = .ok (.if_icmp .ge 30, 3) := by decide +kernel
theorem dX12_next_32 : decode cX12_next 32 = .ok (.aload_n 0, 1) := by decide +kernel
theorem dX12_next_33 : decode cX12_next 33 = .ok (.getfield 22, 3) := by decide +kernel
theorem dX12_next_36 : decode cX12_next 36 = .ok (.aload_n 0, 1) := by decide +kernel
theorem dX12_next_37 : decode cX12_next 37 = .ok (.getfield 121, 3) := by decide +kernel
theorem dX12_next_40 : decode cX12_next 40 = .ok (.iaload, 1) := by decide +kernel
theorem dX12_next_41 : decode cX12_next 41 = .ok (.bipush 32, 2) := by decide +kernel
theorem dX12_next_43 : decode cX12_next 43 = .ok (.if_icmp .ne 16, 3) := by decide +kernel
theorem dX12_next_46 : decode cX12_next 46 = .ok (.aload_n 0, 1) := by decide +kernel
theorem dX12_next_47 : decode cX12_next 47 = .ok (.dup, 1) := by decide +kernel
theorem dX12_next_48 : decode cX12_next 48 = .ok (.getfield 121, 3) := by decide +kernel
theorem dX12_next_51 : decode cX12_next 51 = .ok (.iconst 1, 1) := by decide +kernel
theorem dX12_next_52 : decode cX12_next 52 = .ok (.iadd, 1) := by decide +kernel
theorem dX12_next_53 : decode cX12_next 53 = .ok (.putfield 121, 3) := by decide +kernel
theorem dX12_next_56 : decode cX12_next 56 = .ok (.goto (-35), 3) := by decide +kernel
theorem dX12_next_59 : decode cX12_next 59 = .ok (.aload_n 0, 1) := by decide +kernel
theorem dX12_next_60 : decode cX12_next 60 = .ok (.aload_n 0, 1) := by decide +kernel
theorem dX12_next_61 : decode cX12_next 61 = .ok (.getfield 121, 3) := by decide +kernel
theorem dX12_next_64 : decode cX12_next 64 = .ok (.putfield 127, 3) := by decide +kernel
theorem dX12_next_67 : decode cX12_next 67 = .ok (.aload_n 0, 1) := by decide +kernel
theorem dX12_next_68 : decode cX12_next 68 = .ok (.getfield 121, 3) := by decide +kernel
theorem dX12_next_71 : decode cX12_next 71 = .ok (.iload_n 1, 1) := by decide +kernel
theorem dX12_next_72 : decode cX12_next 72 = .ok (.if_icmp .ne 22, 3) := by decide +kernel
theorem dX12_next_75 : decode cX12_next 75 = .ok (.aload_n 0, 1) := by decide +kernel
theorem dX12_next_76 : decode cX12_next 76 = .ok (.getfield 133, 3) := by decide +kernel
theorem dX12_next_79 : decode cX12_next 79 = .ok (.ifCond .eq 15, 3) := by decide +kernel
theorem dX12_next_82 : decode cX12_next 82 = .ok (.aload_n 0, 1) := by decide +kernel
theorem dX12_next_83 : decode cX12_next 83 = .ok (.getfield 133, 3) := by decide +kernel
theorem dX12_next_86 : decode cX12_next 86 = .ok (.iconst 3, 1) := by decide +kernel
theorem dX12_next_87 : decode cX12_next 87 = .ok (.if_icmp .eq 7, 3) := by decide +kernel
theorem dX12_next_90 : decode cX12_next 90 = .ok (.iconst 1, 1) := by decide +kernel
theorem dX12_next_91 : decode cX12_next 91 = .ok (.goto 4, 3) := by decide +kernel
theorem dX12_next_94 : decode cX12_next 94 = .ok (.iconst 0, 1) := by decide +kernel
theorem dX12_next_95 : decode cX12_next 95 = .ok (.istore_n 2, 1) := by decide +kernel
theorem dX12_next_96 : decode cX12_next 96 = .ok (.aload_n 0, 1) := by decide +kernel
theorem dX12_next_97 : decode cX12_next 97 = .ok (.aload_n 0, 1) := by decide +kernel
theorem dX12_next_98 : decode cX12_next 98 = .ok (.getfield 121, 3) := by decide +kernel
theorem dX12_next_101 : decode cX12_next 101 = .ok (.aload_n 0, 1) := by decide +kernel
theorem dX12_next_102 : decode cX12_next 102 = .ok (.getfield 130, 3) := by decide +kernel
theorem dX12_next_105 : decode cX12_next 105 = .ok (.if_icmp .ne 7, 3) := by decide +kernel
theorem dX12_next_108 : decode cX12_next 108 = .ok (.iconst 0, 1) := by decide +kernel
theorem dX12_next_109 : decode cX12_next 109 = .ok (.goto 15, 3) := by decide +kernel
theorem dX12_next_112 : decode cX12_next 112 = .ok (.aload_n 0, 1) := by decide +kernel
theorem dX12_next_113 : decode cX12_next 113 = .ok (.getfield 22, 3) := by decide +kernel
theorem dX12_next_116 : decode cX12_next 116 = .ok (.aload_n 0, 1) := by decide +kernel
theorem dX12_next_117 : decode cX12_next 117 = .ok (.getfield 121, 3) := by decide +kernel
theorem dX12_next_120 : decode cX12_next 120 = .ok (.iaload, 1) := by decide +kernel
theorem dX12_next_121 : decode cX12_next 121 = .ok (.invokestatic 136, 3) := by decide +kernel
theorem dX12_next_124 : decode cX12_next 124 = .ok (.putfield 133, 3) := by decide +kernel
theorem dX12_next_127 : decode cX12_next 127 = .ok (.aload_n 0, 1) := by decide +kernel
theorem dX12_next_128 : decode cX12_next 128 = .ok (.getfield 133, 3) := by decide +kernel
theorem dX12_next_131 : decode cX12_next 131 = .ok (.ifCond .eq 13, 3) := by decide +kernel
theorem dX12_next_134 : decode cX12_next 134 = .ok (.aload_n 0, 1) := by decide +kernel
theorem dX12_next_135 : decode cX12_next 135 = .ok (.dup, 1) := by decide +kernel
theorem dX12_next_136 : decode cX12_next 136 = .ok (.getfield 127, 3) := by decide +kernel
theorem dX12_next_139 : decode cX12_next 139 = .ok (.iconst 1, 1) := by decide +kernel
theorem dX12_next_140 : decode cX12_next 140 = .ok (.iadd, 1) := by decide +kernel
theorem dX12_next_141 : decode cX12_next 141 = .ok (.putfield 127, 3) := by decide +kernel
theorem dX12_next_144 : decode cX12_next 144 = .ok (.aload_n 0, 1) := by decide +kernel
theorem dX12_next_145 : decode cX12_next 145 = .ok (.getfield 133, 3) := by decide +kernel
theorem dX12_next_148 : decode cX12_next 148 = .ok (.iconst 3, 1) := by decide +kernel
theorem dX12_next_149 : decode cX12_next 149 = .ok (.if_icmp .eq 53, 3) := by decide +kernel
theorem dX12_next_152 : decode cX12_next 152 = .ok (.aload_n 0, 1) := by decide +kernel
theorem dX12_next_153 : decode cX12_next 153 = .ok (.getfield 127, 3) := by decide +kernel
theorem dX12_next_156 : decode cX12_next 156 = .ok (.aload_n 0, 1) := by decide +kernel
theorem dX12_next_157 : decode cX12_next 157 = .ok (.getfield 130, 3) := by decide +kernel
theorem dX12_next_160 : decode cX12_next 160 = .ok (.if_icmp .ge 42, 3) := by decide +kernel
theorem dX12_next_163 : decode cX12_next 163 = .ok (.aload_n 0, 1) := by decide +kernel
theorem dX12_next_164 : decode cX12_next 164 = .ok (.getfield 133, 3) := by decide +kernel
theorem dX12_next_167 : decode cX12_next 167 = .ok (.ifCond .eq 35, 3) := by decide +kernel
theorem dX12_next_170 : decode cX12_next 170 = .ok (.aload_n 0, 1) := by decide +kernel
theorem dX12_next_171 : decode cX12_next 171 = .ok (.getfield 22, 3) := by decide +kernel
theorem dX12_next_174 : decode cX12_next 174 = .ok (.aload_n 0, 1) := by decide +kernel
theorem dX12_next_175 : decode cX12_next 175 = .ok (.getfield 127, 3) := by decide +kernel
theorem dX12_next_178 : decode cX12_next 178 = .ok (.iaload, 1) := by decide +kernel
theorem dX12_next_179 : decode cX12_next 179 = .ok (.invokestatic 136, 3) := by decide +kernel
theorem dX12_next_182 : decode cX12_next 182 = .ok (.aload_n 0, 1) := by decide +kernel
theorem dX12_next_183 : decode cX12_next 183 = .ok (.getfield 133, 3) := by decide +kernel
theorem dX12_next_186 : decode cX12_next 186 = .ok (.if_icmp .ne 16, 3) := by decide +kernel
theorem dX12_next_189 : decode cX12_next 189 = .ok (.aload_n 0, 1) := by decide +kernel
theorem dX12_next_190 : decode cX12_next 190 = .ok (.dup, 1) := by decide +kernel
theorem dX12_next_191 : decode cX12_next 191 = .ok (.getfield 127, 3) := by decide +kernel
theorem dX12_next_194 : decode cX12_next 194 = .ok (.iconst 1, 1) := by decide +kernel
theorem dX12_next_195 : decode cX12_next 195 = .ok (.iadd, 1) := by decide +kernel
theorem dX12_next_196 : decode cX12_next 196 = .ok (.putfield 127, 3) := by decide +kernel
theorem dX12_next_199 : decode cX12_next 199 = .ok (.goto (-55), 3) := by decide +kernel
theorem dX12_next_202 : decode cX12_next 202 = .ok (.iload_n 2, 1) := by decide +kernel
theorem dX12_next_203 : decode cX12_next 203 = .ok (.ifCond .eq 23, 3) := by decide +kernel
theorem dX12_next_206 : decode cX12_next 206 = .ok (.aload_n 0, 1) := by decide +kernel
theorem dX12_next_207 : decode cX12_next 207 = .ok (.getfield 133, 3) := by decide +kernel
theorem dX12_next_210 : decode cX12_next 210 = .ok (.iconst 1, 1) := by decide +kernel
theorem dX12_next_211 : decode cX12_next 211 = .ok (.if_icmp .eq 11, 3) := by decide +kernel
theorem dX12_next_214 : decode cX12_next 214 = .ok (.aload_n 0, 1) := by decide +kernel
theorem dX12_next_215 : decode cX12_next 215 = .ok (.getfield 133, 3) := by decide +kernel
theorem dX12_next_218 : decode cX12_next 218 = .ok (.iconst 2, 1) := by decide +kernel
theorem dX12_next_219 : decode cX12_next 219 = .ok (.if_icmp .ne 7, 3) := by decide +kernel
theorem dX12_next_222 : decode cX12_next 222 = .ok (.aload_n 0, 1) := by decide +kernel
theorem dX12_next_223 : decode cX12_next 223 = .ok (.invokevirtual 139, 3) := by decide +kernel
theorem dX12_next_226 : decode cX12_next 226 = .ok (.return_, 1) := by decide +kernel
theorem dX12_isSign_0 : decode cX12_isSign 0 = .ok (.aload_n 0, 1) := by decide +kernel
theorem dX12_isSign_1 : decode cX12_isSign 1 = .ok (.getfield 133, 3) := by decide +kernel
theorem dX12_isSign_4 : decode cX12_isSign 4 = .ok (.iconst 3, 1) := by decide +kernel
theorem dX12_isSign_5 : decode cX12_isSign 5 = .ok (.if_icmp .ne 20, 3) := by decide +kernel
theorem dX12_isSign_8 : decode cX12_isSign 8 = .ok (.aload_n 0, 1) := by decide +kernel
theorem dX12_isSign_9 : decode cX12_isSign 9 = .ok (.getfield 22, 3) := by decide +kernel
theorem dX12_isSign_12 : decode cX12_isSign 12 = .ok (.aload_n 0, 1) := by decide +kernel
theorem dX12_isSign_13 : decode cX12_isSign 13 = .ok (.getfield 121, 3) := by decide +kernel
theorem dX12_isSign_16 : decode cX12_isSign 16 = .ok (.iaload, 1) := by decide +kernel
theorem dX12_isSign_17 : decode cX12_isSign 17 = .ok (.iload_n 1, 1) := by decide +kernel
theorem dX12_isSign_18 : decode cX12_isSign 18 = .ok (.if_icmp .ne 7, 3) := by decide +kernel
theorem dX12_isSign_21 : decode cX12_isSign 21 = .ok (.iconst 1, 1) := by decide +kernel
theorem dX12_isSign_22 : decode cX12_isSign 22 = .ok (.goto 4, 3) := by decide +kernel
theorem dX12_isSign_25 : decode cX12_isSign 25 = .ok (.iconst 0, 1) := by decide +kernel
theorem dX12_isSign_26 : decode cX12_isSign 26 = .ok (.ireturn, 1) := by decide +kernel
theorem dX12_isLetter_0 : decode cX12_isLetter 0 = .ok (.iload_n 2, 1) := by decide +kernel
theorem dX12_isLetter_1 : decode cX12_isLetter 1 = .ok (.ifCond .ne 19, 3) := by decide +kernel
theorem dX12_isLetter_4 : decode cX12_isLetter 4 = .ok (.iload_n 1, 1) := by decide +kernel
theorem dX12_isLetter_5 : decode cX12_isLetter 5 = .ok (.aload_n 0, 1) := by decide +kernel
theorem dX12_isLetter_6 : decode cX12_isLetter 6 = .ok (.getfield 127, 3) := by decide +kernel
theorem dX12_isLetter_9 : decode cX12_isLetter 9 = .ok (.if_icmp .ne 7, 3) := by decide +kernel
theorem dX12_isLetter_12 : decode cX12_isLetter 12 = .ok (.iconst 1, 1) := by decide +kernel
theorem dX12_isLetter_13 : decode cX12_isLetter 13 = .ok (.goto 30, 3) := by decide +kernel
theorem dX12_isLetter_16 : decode cX12_isLetter 16 = .ok (.iconst 0, 1) := by decide +kernel
theorem dX12_isLetter_17 : decode cX12_isLetter 17 = .ok (.goto 26, 3) := by decide +kernel
theorem dX12_isLetter_20 : decode cX12_isLetter 20 = .ok (.iload_n 1, 1) := by decide +kernel
theorem dX12_isLetter_21 : decode cX12_isLetter 21 = .ok (.aload_n 0, 1) := by decide +kernel
theorem dX12_isLetter_22 : decode cX12_isLetter 22 = .ok (.getfield 127, 3) := by decide +kernel
theorem dX12_isLetter_25 : decode cX12_isLetter 25 = .ok (.if_icmp .ge 17, 3) := by decide +kernel
theorem dX12_isLetter_28 : decode cX12_isLetter 28 = .ok (.aload_n 0, 1) := by decide +kernel
theorem dX12_isLetter_29 : decode cX12_isLetter 29 = .ok (.getfield 22, 3) := by decide +kernel
theorem dX12_isLetter_32 : decode cX12_isLetter 32 = .ok (.iload_n 1, 1) := by decide +kernel
theorem dX12_isLetter_33 : decode cX12_isLetter 33 = .ok (.iaload, 1) := by decide +kernel
theorem dX12_isLetter_34 : decode cX12_isLetter 34 = .ok (.iload_n 2, 1) := by decide +kernel
theorem dX12_isLetter_35 : decode cX12_isLetter 35 = .ok (.if_icmp .ne 7, 3) := by decide +kernel
theorem dX12_isLetter_38 : decode cX12_isLetter 38 = .ok (.iconst 1, 1) := by decide +kernel
theorem dX12_isLetter_39 : decode cX12_isLetter 39 = .ok (.goto 4, 3) := by decide +kernel
theorem dX12_isLetter_42 : decode cX12_isLetter 42 = .ok (.iconst 0, 1) := by decide +kernel
theorem dX12_isLetter_43 : decode cX12_isLetter 43 = .ok (.ireturn, 1) := by decide +kernel
theorem dX12_isWord_0 : decode cX12_isWord 0 = .ok (.aload_n 0, 1) := by decide +kernel
theorem dX12_isWord_1 : decode cX12_isWord 1 = .ok (.getfield 133, 3) := by decide +kernel
theorem dX12_isWord_4 : decode cX12_isWord 4 = .ok (.iconst 1, 1) := by decide +kernel
theorem dX12_isWord_5 : decode cX12_isWord 5 = .ok (.if_icmp .ne 47, 3) := by decide +kernel
theorem dX12_isWord_8 : decode cX12_isWord 8 = .ok (.aload_n 0, 1) := by decide +kernel
theorem dX12_isWord_9 : decode cX12_isWord 9 = .ok (.aload_n 0, 1) := by decide +kernel
theorem dX12_isWord_10 : decode cX12_isWord 10 = .ok (.getfield 121, 3) := by decide +kernel
theorem dX12_isWord_13 : decode cX12_isWord 13 = .ok (.iload_n 1, 1) := by decide +kernel
theorem dX12_isWord_14 : decode cX12_isWord 14 = .ok (.invokevirtual 142, 3) := by decide +kernel
theorem dX12_isWord_17 : decode cX12_isWord 17 = .ok (.ifCond .eq 35, 3) := by decide +kernel
theorem dX12_isWord_20 : decode cX12_isWord 20 = .ok (.aload_n 0, 1) := by decide +kernel
theorem dX12_isWord_21 : decode cX12_isWord 21 = .ok (.aload_n 0, 1) := by decide +kernel
theorem dX12_isWord_22 : decode cX12_isWord 22 = .ok (.getfield 121, 3) := by decide +kernel
theorem dX12_isWord_25 : decode cX12_isWord 25 = .ok (.iconst 1, 1) := by decide +kernel
theorem dX12_isWord_26 : decode cX12_isWord 26 = .ok (.iadd, 1) := by decide +kernel
theorem dX12_isWord_27 : decode cX12_isWord 27 = .ok (.iload_n 2, 1) := by decide +kernel
theorem dX12_isWord_28 : decode cX12_isWord 28 = .ok (.invokevirtual 142, 3) := by decide +kernel
theorem dX12_isWord_31 : decode cX12_isWord 31 = .ok (.ifCond .eq 21, 3) := by decide +kernel
theorem dX12_isWord_34 : decode cX12_isWord 34 = .ok (.aload_n 0, 1) := by decide +kernel
theorem dX12_isWord_35 : decode cX12_isWord 35 = .ok (.aload_n 0, 1) := by decide +kernel
theorem dX12_isWord_36 : decode cX12_isWord 36 = .ok (.getfield 121, 3) := by decide +kernel
theorem dX12_isWord_39 : decode cX12_isWord 39 = .ok (.iconst 2, 1) := by decide +kernel
theorem dX12_isWord_40 : decode cX12_isWord 40 = .ok (.iadd, 1) := by decide +kernel
theorem dX12_isWord_41 : decode cX12_isWord 41 = .ok (.iload_n 3, 1) := by decide +kernel
theorem dX12_isWord_42 : decode cX12_isWord 42 = .ok (.invokevirtual 142, 3) := by decide +kernel
theorem dX12_isWord_45 : decode cX12_isWord 45 = .ok (.ifCond .eq 7, 3) := by decide +kernel
theorem dX12_isWord_48 : decode cX12_isWord 48 = .ok (.iconst 1, 1) := by decide +kernel
theorem dX12_isWord_49 : decode cX12_isWord 49 = .ok (.goto 4, 3) := by decide +kernel
theorem dX12_isWord_52 : decode cX12_isWord 52 = .ok (.iconst 0, 1) := by decide +kernel
theorem dX12_isWord_53 : decode cX12_isWord 53 = .ok (.istore 6, 2) := by decide +kernel
theorem dX12_isWord_55 : decode cX12_isWord 55 = .ok (.iload 6, 2) := by decide +kernel
theorem dX12_isWord_57 : decode cX12_isWord 57 = .ok (.ifCond .eq 26, 3) := by decide +kernel
theorem dX12_isWord_60 : decode cX12_isWord 60 = .ok (.iload_n 3, 1) := by decide +kernel
theorem dX12_isWord_61 : decode cX12_isWord 61 = .ok (.ifCond .eq 18, 3) := by decide +kernel
theorem dX12_isWord_64 : decode cX12_isWord 64 = .ok (.aload_n 0, 1) := by decide +kernel
theorem dX12_isWord_65 : decode cX12_isWord 65 = .ok (.aload_n 0, 1) := by decide +kernel
theorem dX12_isWord_66 : decode cX12_isWord 66 = .ok (.getfield 121, 3) := by decide +kernel
theorem dX12_isWord_69 : decode cX12_isWord 69 = .ok (.iconst 3, 1) := by decide +kernel
theorem dX12_isWord_70 : decode cX12_isWord 70 = .ok (.iadd, 1) := by decide +kernel
theorem dX12_isWord_71 : decode cX12_isWord 71 = .ok (.iload 4, 2) := by decide +kernel
theorem dX12_isWord_73 : decode cX12_isWord 73 = .ok (.invokevirtual 142, 3) := by decide +kernel
theorem dX12_isWord_76 : decode cX12_isWord 76 = .ok (.ifCond .eq 7, 3) := by decide +kernel
theorem dX12_isWord_79 : decode cX12_isWord 79 = .ok (.iconst 1, 1) := by decide +kernel
theorem dX12_isWord_80 : decode cX12_isWord 80 = .ok (.goto 4, 3) := by decide +kernel
theorem dX12_isWord_83 : decode cX12_isWord 83 = .ok (.iconst 0, 1) := by decide +kernel
theorem dX12_isWord_84 : decode cX12_isWord 84 = .ok (.istore 6, 2) := by decide +kernel
theorem dX12_isWord_86 : decode cX12_isWord 86 = .ok (.iload 6, 2) := by decide +kernel
theorem dX12_isWord_88 : decode cX12_isWord 88 = .ok (.ifCond .eq 45, 3) := by decide +kernel
theorem dX12_isWord_91 : decode cX12_isWord 91 = .ok (.iload 4, 2) := by decide +kernel
theorem dX12_isWord_93 : decode cX12_isWord 93 = .ok (.ifCond .eq 18, 3) := by decide +kernel
theorem dX12_isWord_96 : decode cX12_isWord 96 = .ok (.aload_n 0, 1) := by decide +kernel
theorem dX12_isWord_97 : decode cX12_isWord 97 = .ok (.aload_n 0, 1) := by decide +kernel
theorem dX12_isWord_98 : decode cX12_isWord 98 = .ok (.getfield 121, 3) := by decide +kernel
theorem dX12_isWord_101 : decode cX12_isWord 101 = .ok (.iconst 4, 1) := by decide +kernel
theorem dX12_isWord_102 : decode cX12_isWord 102 = .ok (.iadd, 1) := by decide +kernel
theorem dX12_isWord_103 : decode cX12_isWord 103 = .ok (.iload 5, 2) := by decide +kernel
theorem dX12_isWord_105 : decode cX12_isWord 105 = .ok (.invokevirtual 142, 3) := by decide +kernel
theorem dX12_isWord_108 : decode cX12_isWord 108 = .ok (.ifCond .eq 25, 3) := by decide +kernel
theorem dX12_isWord_111 : decode cX12_isWord 111 = .ok (.iload 5, 2) := by decide +kernel
theorem dX12_isWord_113 : decode cX12_isWord 113 = .ok (.ifCond .eq 16, 3) := by decide +kernel
theorem dX12_isWord_116 : decode cX12_isWord 116 = .ok (.aload_n 0, 1) := by decide +kernel
theorem dX12_isWord_117 : decode cX12_isWord 117 = .ok (.getfield 127, 3) := by decide +kernel
theorem dX12_isWord_120 : decode cX12_isWord 120 = .ok (.aload_n 0, 1) := by decide +kernel
theorem dX12_isWord_121 : decode cX12_isWord 121 = .ok (.getfield 121, 3) := by decide +kernel
theorem dX12_isWord_124 : decode cX12_isWord 124 = .ok (.iconst 5, 1) := by decide +kernel
theorem dX12_isWord_125 : decode cX12_isWord 125 = .ok (.iadd, 1) := by decide +kernel
theorem dX12_isWord_126 : decode cX12_isWord 126 = .ok (.if_icmp .ne 7, 3) := by decide +kernel
theorem dX12_isWord_129 : decode cX12_isWord 129 = .ok (.iconst 1, 1) := by decide +kernel
theorem dX12_isWord_130 : decode cX12_isWord 130 = .ok (.goto 4, 3) := by decide +kernel
theorem dX12_isWord_133 : decode cX12_isWord 133 = .ok (.iconst 0, 1) := by decide +kernel
theorem dX12_isWord_134 : decode cX12_isWord 134 = .ok (.ireturn, 1) := by decide +kernel
theorem dX12_emit_0 : decode cX12_emit 0 = .ok (.sipush 241, 3) := by decide +kernel
theorem dX12_emit_3 : decode cX12_emit 3 = .ok (.aload_n 0, 1) := by decide +kernel
theorem dX12_emit_4 : decode cX12_emit 4 = .ok (.getfield 145, 3) := by decide +kernel
theorem dX12_emit_7 : decode cX12_emit 7 = .ok (.imul, 1) := by decide +kernel
theorem dX12_emit_8 : decode cX12_emit 8 = .ok (.iconst 1, 1) := by decide +kernel
theorem dX12_emit_9 : decode cX12_emit 9 = .ok (.iadd, 1) := by decide +kernel
theorem dX12_emit_10 : decode cX12_emit 10 = .ok (.iconst 2, 1) := by decide +kernel
theorem dX12_emit_11 : decode cX12_emit 11 = .ok (.aload_n 0, 1) := by decide +kernel
theorem dX12_emit_12 : decode cX12_emit 12 = .ok (.getfield 148, 3) := by decide +kernel
theorem dX12_emit_15 : decode cX12_emit 15 = .ok (.imul, 1) := by decide +kernel
theorem dX12_emit_16 : decode cX12_emit 16 = .ok (.iadd, 1) := by decide +kernel
theorem dX12_emit_17 : decode cX12_emit 17 = .ok (.istore_n 3, 1) := by decide +kernel
theorem dX12_emit_18 : decode cX12_emit 18 = .ok (.aload_n 0, 1) := by decide +kernel
theorem dX12_emit_19 : decode cX12_emit 19 = .ok (.getfield 25, 3) := by decide +kernel
theorem dX12_emit_22 : decode cX12_emit 22 = .ok (.iload_n 3, 1) := by decide +kernel
theorem dX12_emit_23 : decode cX12_emit 23 = .ok (.iload_n 1, 1) := by decide +kernel
theorem dX12_emit_24 : decode cX12_emit 24 = .ok (.iastore, 1) := by decide +kernel
theorem dX12_emit_25 : decode cX12_emit 25 = .ok (.aload_n 0, 1) := by decide +kernel
theorem dX12_emit_26 : decode cX12_emit 26 = .ok (.getfield 25, 3) := by decide +kernel
theorem dX12_emit_29 : decode cX12_emit 29 = .ok (.iload_n 3, 1) := by decide +kernel
theorem dX12_emit_30 : decode cX12_emit 30 = .ok (.iconst 1, 1) := by decide +kernel
theorem dX12_emit_31 : decode cX12_emit 31 = .ok (.iadd, 1) := by decide +kernel
theorem dX12_emit_32 : decode cX12_emit 32 = .ok (.iload_n 2, 1) := by decide +kernel
theorem dX12_emit_33 : decode cX12_emit 33 = .ok (.iastore, 1) := by decide +kernel
theorem dX12_emit_34 : decode cX12_emit 34 = .ok (.aload_n 0, 1) := by decide +kernel
theorem dX12_emit_35 : decode cX12_emit 35 = .ok (.dup, 1) := by decide +kernel
theorem dX12_emit_36 : decode cX12_emit 36 = .ok (.getfield 148, 3) := by decide +kernel
theorem dX12_emit_39 : decode cX12_emit 39 = .ok (.iconst 1, 1) := by decide +kernel
theorem dX12_emit_40 : decode cX12_emit 40 = .ok (.iadd, 1) := by decide +kernel
theorem dX12_emit_41 : decode cX12_emit 41 = .ok (.putfield 148, 3) := by decide +kernel
theorem dX12_emit_44 : decode cX12_emit 44 = .ok (.return_, 1) := by decide +kernel
theorem dX12_works_0 : decode cX12_works 0 = .ok (.aload_n 0, 1) := by decide +kernel
theorem dX12_works_1 : decode cX12_works 1 = .ok (.getfield 151, 3) := by decide +kernel
theorem dX12_works_4 : decode cX12_works 4 = .ok (.ifCond .le 64, 3) := by decide +kernel
theorem dX12_works_7 : decode cX12_works 7 = .ok (.aload_n 0, 1) := by decide +kernel
theorem dX12_works_8 : decode cX12_works 8 = .ok (.getfield 28, 3) := by decide +kernel
theorem dX12_works_11 : decode cX12_works 11 = .ok (.aload_n 0, 1) := by decide +kernel
theorem dX12_works_12 : decode cX12_works 12 = .ok (.getfield 151, 3) := by decide +kernel
theorem dX12_works_15 : decode cX12_works 15 = .ok (.iconst 1, 1) := by decide +kernel
theorem dX12_works_16 : decode cX12_works 16 = .ok (.isub, 1) := by decide +kernel
theorem dX12_works_17 : decode cX12_works 17 = .ok (.iaload, 1) := by decide +kernel
theorem dX12_works_18 : decode cX12_works 18 = .ok (.bipush 10, 2) := by decide +kernel
theorem dX12_works_20 : decode cX12_works 20 = .ok (.if_icmp .lt 48, 3) := by decide +kernel
theorem dX12_works_23 : decode cX12_works 23 = .ok (.aload_n 0, 1) := by decide +kernel
theorem dX12_works_24 : decode cX12_works 24 = .ok (.getfield 28, 3) := by decide +kernel
theorem dX12_works_27 : decode cX12_works 27 = .ok (.aload_n 0, 1) := by decide +kernel
theorem dX12_works_28 : decode cX12_works 28 = .ok (.getfield 151, 3) := by decide +kernel
theorem dX12_works_31 : decode cX12_works 31 = .ok (.iconst 1, 1) := by decide +kernel
theorem dX12_works_32 : decode cX12_works 32 = .ok (.isub, 1) := by decide +kernel
theorem dX12_works_33 : decode cX12_works 33 = .ok (.iaload, 1) := by decide +kernel
theorem dX12_works_34 : decode cX12_works 34 = .ok (.bipush 10, 2) := by decide +kernel
theorem dX12_works_36 : decode cX12_works 36 = .ok (.idiv, 1) := by decide +kernel
theorem dX12_works_37 : decode cX12_works 37 = .ok (.iload_n 1, 1) := by decide +kernel
theorem dX12_works_38 : decode cX12_works 38 = .ok (.if_icmp .lt 30, 3) := by decide +kernel
theorem dX12_works_41 : decode cX12_works 41 = .ok (.aload_n 0, 1) := by decide +kernel
theorem dX12_works_42 : decode cX12_works 42 = .ok (.dup, 1) := by decide +kernel
theorem dX12_works_43 : decode cX12_works 43 = .ok (.getfield 151, 3) := by decide +kernel
theorem dX12_works_46 : decode cX12_works 46 = .ok (.iconst 1, 1) := by decide +kernel
theorem dX12_works_47 : decode cX12_works 47 = .ok (.isub, 1) := by decide +kernel
theorem dX12_works_48 : decode cX12_works 48 = .ok (.putfield 151, 3) := by decide +kernel
theorem dX12_works_51 : decode cX12_works 51 = .ok (.aload_n 0, 1) := by decide +kernel
theorem dX12_works_52 : decode cX12_works 52 = .ok (.aload_n 0, 1) := by decide +kernel
theorem dX12_works_53 : decode cX12_works 53 = .ok (.getfield 28, 3) := by decide +kernel
theorem dX12_works_56 : decode cX12_works 56 = .ok (.aload_n 0, 1) := by decide +kernel
theorem dX12_works_57 : decode cX12_works 57 = .ok (.getfield 151, 3) := by decide +kernel
theorem dX12_works_60 : decode cX12_works 60 = .ok (.iaload, 1) := by decide +kernel
theorem dX12_works_61 : decode cX12_works 61 = .ok (.iconst 0, 1) := by decide +kernel
theorem dX12_works_62 : decode cX12_works 62 = .ok (.invokevirtual 154, 3) := by decide +kernel
theorem dX12_works_65 : decode cX12_works 65 = .ok (.goto (-65), 3) := by decide +kernel
theorem dX12_works_68 : decode cX12_works 68 = .ok (.return_, 1) := by decide +kernel
theorem dX12_parted_0 : decode cX12_parted 0 = .ok (.aload_n 0, 1) := by decide +kernel
theorem dX12_parted_1 : decode cX12_parted 1 = .ok (.getfield 151, 3) := by decide +kernel
theorem dX12_parted_4 : decode cX12_parted 4 = .ok (.ifCond .le 47, 3) := by decide +kernel
theorem dX12_parted_7 : decode cX12_parted 7 = .ok (.aload_n 0, 1) := by decide +kernel
theorem dX12_parted_8 : decode cX12_parted 8 = .ok (.getfield 28, 3) := by decide +kernel
theorem dX12_parted_11 : decode cX12_parted 11 = .ok (.aload_n 0, 1) := by decide +kernel
theorem dX12_parted_12 : decode cX12_parted 12 = .ok (.getfield 151, 3) := by decide +kernel
theorem dX12_parted_15 : decode cX12_parted 15 = .ok (.iconst 1, 1) := by decide +kernel
theorem dX12_parted_16 : decode cX12_parted 16 = .ok (.isub, 1) := by decide +kernel
theorem dX12_parted_17 : decode cX12_parted 17 = .ok (.iaload, 1) := by decide +kernel
theorem dX12_parted_18 : decode cX12_parted 18 = .ok (.iconst 3, 1) := by decide +kernel
theorem dX12_parted_19 : decode cX12_parted 19 = .ok (.if_icmp .ne 32, 3) := by decide +kernel
theorem dX12_parted_22 : decode cX12_parted 22 = .ok (.aload_n 0, 1) := by decide +kernel
theorem dX12_parted_23 : decode cX12_parted 23 = .ok (.dup, 1) := by decide +kernel
theorem dX12_parted_24 : decode cX12_parted 24 = .ok (.getfield 151, 3) := by decide +kernel
theorem dX12_parted_27 : decode cX12_parted 27 = .ok (.iconst 1, 1) := by decide +kernel
theorem dX12_parted_28 : decode cX12_parted 28 = .ok (.isub, 1) := by decide +kernel
theorem dX12_parted_29 : decode cX12_parted 29 = .ok (.putfield 151, 3) := by decide +kernel
theorem dX12_parted_32 : decode cX12_parted 32 = .ok (.aload_n 0, 1) := by decide +kernel
theorem dX12_parted_33 : decode cX12_parted 33 = .ok (.dup, 1) := by decide +kernel
theorem dX12_parted_34 : decode cX12_parted 34 = .ok (.getfield 158, 3) := by decide +kernel
theorem dX12_parted_37 : decode cX12_parted 37 = .ok (.iconst 1, 1) := by decide +kernel
theorem dX12_parted_38 : decode cX12_parted 38 = .ok (.isub, 1) := by decide +kernel
theorem dX12_parted_39 : decode cX12_parted 39 = .ok (.putfield 158, 3) := by decide +kernel
theorem dX12_parted_42 : decode cX12_parted 42 = .ok (.aload_n 0, 1) := by decide +kernel
theorem dX12_parted_43 : decode cX12_parted 43 = .ok (.iconst 3, 1) := by decide +kernel
theorem dX12_parted_44 : decode cX12_parted 44 = .ok (.iconst 0, 1) := by decide +kernel
theorem dX12_parted_45 : decode cX12_parted 45 = .ok (.invokevirtual 154, 3) := by decide +kernel
theorem dX12_parted_48 : decode cX12_parted 48 = .ok (.goto (-48), 3) := by decide +kernel
theorem dX12_parted_51 : decode cX12_parted 51 = .ok (.return_, 1) := by decide +kernel
theorem dX12_isName_0 : decode cX12_isName 0 = .ok (.iload_n 1, 1) := by decide +kernel
theorem dX12_isName_1 : decode cX12_isName 1 = .ok (.bipush 110, 2) := by decide +kernel
theorem dX12_isName_3 : decode cX12_isName 3 = .ok (.if_icmp .eq 39, 3) := by decide +kernel
theorem dX12_isName_6 : decode cX12_isName 6 = .ok (.iload_n 1, 1) := by decide +kernel
theorem dX12_isName_7 : decode cX12_isName 7 = .ok (.bipush 114, 2) := by decide +kernel
theorem dX12_isName_9 : decode cX12_isName 9 = .ok (.if_icmp .eq 33, 3) := by decide +kernel
theorem dX12_isName_12 : decode cX12_isName 12 = .ok (.iload_n 1, 1) := by decide +kernel
theorem dX12_isName_13 : decode cX12_isName 13 = .ok (.bipush 107, 2) := by decide +kernel
theorem dX12_isName_15 : decode cX12_isName 15 = .ok (.if_icmp .eq 27, 3) := by decide +kernel
theorem dX12_isName_18 : decode cX12_isName 18 = .ok (.iload_n 1, 1) := by decide +kernel
theorem dX12_isName_19 : decode cX12_isName 19 = .ok (.bipush 99, 2) := by decide +kernel
theorem dX12_isName_21 : decode cX12_isName 21 = .ok (.if_icmp .eq 21, 3) := by decide +kernel
theorem dX12_isName_24 : decode cX12_isName 24 = .ok (.iload_n 1, 1) := by decide +kernel
theorem dX12_isName_25 : decode cX12_isName 25 = .ok (.bipush 103, 2) := by decide +kernel
theorem dX12_isName_27 : decode cX12_isName 27 = .ok (.if_icmp .eq 15, 3) := by decide +kernel
theorem dX12_isName_30 : decode cX12_isName 30 = .ok (.iload_n 1, 1) := by decide +kernel
theorem dX12_isName_31 : decode cX12_isName 31 = .ok (.bipush 119, 2) := by decide +kernel
theorem dX12_isName_33 : decode cX12_isName 33 = .ok (.if_icmp .eq 9, 3) := by decide +kernel
theorem dX12_isName_36 : decode cX12_isName 36 = .ok (.iload_n 1, 1) := by decide +kernel
theorem dX12_isName_37 : decode cX12_isName 37 = .ok (.bipush 109, 2) := by decide +kernel
theorem dX12_isName_39 : decode cX12_isName 39 = .ok (.if_icmp .ne 7, 3) := by decide +kernel
theorem dX12_isName_42 : decode cX12_isName 42 = .ok (.iconst 1, 1) := by decide +kernel
theorem dX12_isName_43 : decode cX12_isName 43 = .ok (.goto 4, 3) := by decide +kernel
theorem dX12_isName_46 : decode cX12_isName 46 = .ok (.iconst 0, 1) := by decide +kernel
theorem dX12_isName_47 : decode cX12_isName 47 = .ok (.ireturn, 1) := by decide +kernel
theorem dX12_begins_0 : decode cX12_begins 0 = .ok (.aload_n 0, 1) := by decide +kernel
theorem dX12_begins_1 : decode cX12_begins 1 = .ok (.bipush 33, 2) := by decide +kernel
theorem dX12_begins_3 : decode cX12_begins 3 = .ok (.invokevirtual 161, 3) := by decide +kernel
theorem dX12_begins_6 : decode cX12_begins 6 = .ok (.ifCond .ne 12, 3) := by decide +kernel
theorem dX12_begins_9 : decode cX12_begins 9 = .ok (.aload_n 0, 1) := by decide +kernel
theorem dX12_begins_10 : decode cX12_begins 10 = .ok (.bipush 40, 2) := by decide +kernel
theorem dX12_begins_12 : decode cX12_begins 12 = .ok (.invokevirtual 161, 3) := by decide +kernel
theorem dX12_begins_15 : decode cX12_begins 15 = .ok (.ifCond .eq 106, 3) := by decide +kernel
theorem dX12_begins_18 : decode cX12_begins 18 = .ok (.aload_n 0, 1) := by decide +kernel
theorem dX12_begins_19 : decode cX12_begins 19 = .ok (.bipush 33, 2) := by decide +kernel
theorem dX12_begins_21 : decode cX12_begins 21 = .ok (.invokevirtual 161, 3) := by decide +kernel
theorem dX12_begins_24 : decode cX12_begins 24 = .ok (.istore_n 1, 1) := by decide +kernel
theorem dX12_begins_25 : decode cX12_begins 25 = .ok (.iload_n 1, 1) := by decide +kernel
theorem dX12_begins_26 : decode cX12_begins 26 = .ok (.ifCond .eq 10, 3) := by decide +kernel
theorem dX12_begins_29 : decode cX12_begins 29 = .ok (.aload_n 0, 1) := by decide +kernel
theorem dX12_begins_30 : decode cX12_begins 30 = .ok (.getfield 158, 3) := by decide +kernel
theorem dX12_begins_33 : decode cX12_begins 33 = .ok (.goto 7, 3) := by decide +kernel
theorem dX12_begins_36 : decode cX12_begins 36 = .ok (.aload_n 0, 1) := by decide +kernel
theorem dX12_begins_37 : decode cX12_begins 37 = .ok (.getfield 164, 3) := by decide +kernel
theorem dX12_begins_40 : decode cX12_begins 40 = .ok (.bipush 8, 2) := by decide +kernel
theorem dX12_begins_42 : decode cX12_begins 42 = .ok (.if_icmp .ne 9, 3) := by decide +kernel
theorem dX12_begins_45 : decode cX12_begins 45 = .ok (.aload_n 0, 1) := by decide +kernel
theorem dX12_begins_46 : decode cX12_begins 46 = .ok (.invokevirtual 139, 3) := by decide +kernel
theorem dX12_begins_49 : decode cX12_begins 49 = .ok (.iconst 0, 1) := by decide +kernel
theorem dX12_begins_50 : decode cX12_begins 50 = .ok (.ireturn, 1) := by decide +kernel
theorem dX12_begins_51 : decode cX12_begins 51 = .ok (.aload_n 0, 1) := by decide +kernel
theorem dX12_begins_52 : decode cX12_begins 52 = .ok (.getfield 28, 3) := by decide +kernel
theorem dX12_begins_55 : decode cX12_begins 55 = .ok (.aload_n 0, 1) := by decide +kernel
theorem dX12_begins_56 : decode cX12_begins 56 = .ok (.getfield 151, 3) := by decide +kernel
theorem dX12_begins_59 : decode cX12_begins 59 = .ok (.iload_n 1, 1) := by decide +kernel
theorem dX12_begins_60 : decode cX12_begins 60 = .ok (.ifCond .eq 7, 3) := by decide +kernel
theorem dX12_begins_63 : decode cX12_begins 63 = .ok (.iconst 3, 1) := by decide +kernel
theorem dX12_begins_64 : decode cX12_begins 64 = .ok (.goto 4, 3) := by decide +kernel
theorem dX12_begins_67 : decode cX12_begins 67 = .ok (.iconst 1, 1) := by decide +kernel
theorem dX12_begins_68 : decode cX12_begins 68 = .ok (.iastore, 1) := by decide +kernel
theorem dX12_begins_69 : decode cX12_begins 69 = .ok (.aload_n 0, 1) := by decide +kernel
theorem dX12_begins_70 : decode cX12_begins 70 = .ok (.dup, 1) := by decide +kernel
theorem dX12_begins_71 : decode cX12_begins 71 = .ok (.getfield 151, 3) := by decide +kernel
theorem dX12_begins_74 : decode cX12_begins 74 = .ok (.iconst 1, 1) := by decide +kernel
theorem dX12_begins_75 : decode cX12_begins 75 = .ok (.iadd, 1) := by decide +kernel
theorem dX12_begins_76 : decode cX12_begins 76 = .ok (.putfield 151, 3) := by decide +kernel
theorem dX12_begins_79 : decode cX12_begins 79 = .ok (.aload_n 0, 1) := by decide +kernel
theorem dX12_begins_80 : decode cX12_begins 80 = .ok (.dup, 1) := by decide +kernel
theorem dX12_begins_81 : decode cX12_begins 81 = .ok (.getfield 158, 3) := by decide +kernel
theorem dX12_begins_84 : decode cX12_begins 84 = .ok (.iload_n 1, 1) := by decide +kernel
theorem dX12_begins_85 : decode cX12_begins 85 = .ok (.ifCond .eq 7, 3) := by decide +kernel
theorem dX12_begins_88 : decode cX12_begins 88 = .ok (.iconst 1, 1) := by decide +kernel
theorem dX12_begins_89 : decode cX12_begins 89 = .ok (.goto 4, 3) := by decide +kernel
theorem dX12_begins_92 : decode cX12_begins 92 = .ok (.iconst 0, 1) := by decide +kernel
theorem dX12_begins_93 : decode cX12_begins 93 = .ok (.iadd, 1) := by decide +kernel
theorem dX12_begins_94 : decode cX12_begins 94 = .ok (.putfield 158, 3) := by decide +kernel
theorem dX12_begins_97 : decode cX12_begins 97 = .ok (.aload_n 0, 1) := by decide +kernel
theorem dX12_begins_98 : decode cX12_begins 98 = .ok (.dup, 1) := by decide +kernel
theorem dX12_begins_99 : decode cX12_begins 99 = .ok (.getfield 164, 3) := by decide +kernel
theorem dX12_begins_102 : decode cX12_begins 102 = .ok (.iload_n 1, 1) := by decide +kernel
theorem dX12_begins_103 : decode cX12_begins 103 = .ok (.ifCond .eq 7, 3) := by decide +kernel
theorem dX12_begins_106 : decode cX12_begins 106 = .ok (.iconst 0, 1) := by decide +kernel
theorem dX12_begins_107 : decode cX12_begins 107 = .ok (.goto 4, 3) := by decide +kernel
theorem dX12_begins_110 : decode cX12_begins 110 = .ok (.iconst 1, 1) := by decide +kernel
theorem dX12_begins_111 : decode cX12_begins 111 = .ok (.iadd, 1) := by decide +kernel
theorem dX12_begins_112 : decode cX12_begins 112 = .ok (.putfield 164, 3) := by decide +kernel
theorem dX12_begins_115 : decode cX12_begins 115 = .ok (.aload_n 0, 1) := by decide +kernel
theorem dX12_begins_116 : decode cX12_begins 116 = .ok (.invokevirtual 167, 3) := by decide +kernel
theorem dX12_begins_119 : decode cX12_begins 119 = .ok (.iconst 1, 1) := by decide +kernel
theorem dX12_begins_120 : decode cX12_begins 120 = .ok (.ireturn, 1) := by decide +kernel
theorem dX12_begins_121 : decode cX12_begins 121 = .ok (.aload_n 0, 1) := by decide +kernel
theorem dX12_begins_122 : decode cX12_begins 122 = .ok (.getfield 133, 3) := by decide +kernel
theorem dX12_begins_125 : decode cX12_begins 125 = .ok (.iconst 2, 1) := by decide +kernel
theorem dX12_begins_126 : decode cX12_begins 126 = .ok (.if_icmp .ne 61, 3) := by decide +kernel
theorem dX12_begins_129 : decode cX12_begins 129 = .ok (.aload_n 0, 1) := by decide +kernel
theorem dX12_begins_130 : decode cX12_begins 130 = .ok (.getfield 127, 3) := by decide +kernel
theorem dX12_begins_133 : decode cX12_begins 133 = .ok (.aload_n 0, 1) := by decide +kernel
theorem dX12_begins_134 : decode cX12_begins 134 = .ok (.getfield 121, 3) := by decide +kernel
theorem dX12_begins_137 : decode cX12_begins 137 = .ok (.isub, 1) := by decide +kernel
theorem dX12_begins_138 : decode cX12_begins 138 = .ok (.iconst 5, 1) := by decide +kernel
theorem dX12_begins_139 : decode cX12_begins 139 = .ok (.if_icmp .gt 48, 3) := by decide +kernel
theorem dX12_begins_142 : decode cX12_begins 142 = .ok (.iconst 0, 1) := by decide +kernel
theorem dX12_begins_143 : decode cX12_begins 143 = .ok (.istore_n 1, 1) := by decide +kernel
theorem dX12_begins_144 : decode cX12_begins 144 = .ok (.aload_n 0, 1) := by decide +kernel
theorem dX12_begins_145 : decode cX12_begins 145 = .ok (.getfield 121, 3) := by decide +kernel
theorem dX12_begins_148 : decode cX12_begins 148 = .ok (.istore_n 2, 1) := by decide +kernel
theorem dX12_begins_149 : decode cX12_begins 149 = .ok (.iload_n 2, 1) := by decide +kernel
theorem dX12_begins_150 : decode cX12_begins 150 = .ok (.aload_n 0, 1) := by decide +kernel
theorem dX12_begins_151 : decode cX12_begins 151 = .ok (.getfield 127, 3) := by decide +kernel
theorem dX12_begins_154 : decode cX12_begins 154 = .ok (.if_icmp .ge 24, 3) := by decide +kernel
theorem dX12_begins_157 : decode cX12_begins 157 = .ok (.bipush 10, 2) := by decide +kernel
theorem dX12_begins_159 : decode cX12_begins 159 = .ok (.iload_n 1, 1) := by decide +kernel
theorem dX12_begins_160 : decode cX12_begins 160 = .ok (.imul, 1) := by decide +kernel
theorem dX12_begins_161 : decode cX12_begins 161 = .ok (.aload_n 0, 1) := by decide +kernel
theorem dX12_begins_162 : decode cX12_begins 162 = .ok (.getfield 22, 3) := by decide +kernel
theorem dX12_begins_165 : decode cX12_begins 165 = .ok (.iload_n 2, 1) := by decide +kernel
theorem dX12_begins_166 : decode cX12_begins 166 = .ok (.iaload, 1) := by decide +kernel
theorem dX12_begins_167 : decode cX12_begins 167 = .ok (.iadd, 1) := by decide +kernel
theorem dX12_begins_168 : decode cX12_begins 168 = .ok (.bipush 48, 2) := by decide +kernel
theorem dX12_begins_170 : decode cX12_begins 170 = .ok (.isub, 1) := by decide +kernel
theorem dX12_begins_171 : decode cX12_begins 171 = .ok (.istore_n 1, 1) := by decide +kernel
theorem dX12_begins_172 : decode cX12_begins 172 = .ok (.iinc 2 1, 3) := by decide +kernel
theorem dX12_begins_175 : decode cX12_begins 175 = .ok (.goto (-26), 3) := by decide +kernel
theorem dX12_begins_178 : decode cX12_begins 178 = .ok (.aload_n 0, 1) := by decide +kernel
theorem dX12_begins_179 : decode cX12_begins 179 = .ok (.iconst 1, 1) := by decide +kernel
theorem dX12_begins_180 : decode cX12_begins 180 = .ok (.iload_n 1, 1) := by decide +kernel
theorem dX12_begins_181 : decode cX12_begins 181 = .ok (.invokevirtual 154, 3) := by decide +kernel
theorem dX12_begins_184 : decode cX12_begins 184 = .ok (.goto 63, 3) := by decide +kernel
theorem dX12_begins_187 : decode cX12_begins 187 = .ok (.aload_n 0, 1) := by decide +kernel
theorem dX12_begins_188 : decode cX12_begins 188 = .ok (.getfield 133, 3) := by decide +kernel
theorem dX12_begins_191 : decode cX12_begins 191 = .ok (.iconst 1, 1) := by decide +kernel
theorem dX12_begins_192 : decode cX12_begins 192 = .ok (.if_icmp .ne 49, 3) := by decide +kernel
theorem dX12_begins_195 : decode cX12_begins 195 = .ok (.aload_n 0, 1) := by decide +kernel
theorem dX12_begins_196 : decode cX12_begins 196 = .ok (.getfield 127, 3) := by decide +kernel
theorem dX12_begins_199 : decode cX12_begins 199 = .ok (.aload_n 0, 1) := by decide +kernel
theorem dX12_begins_200 : decode cX12_begins 200 = .ok (.getfield 121, 3) := by decide +kernel
theorem dX12_begins_203 : decode cX12_begins 203 = .ok (.isub, 1) := by decide +kernel
theorem dX12_begins_204 : decode cX12_begins 204 = .ok (.iconst 1, 1) := by decide +kernel
theorem dX12_begins_205 : decode cX12_begins 205 = .ok (.if_icmp .ne 36, 3) := by decide +kernel
theorem dX12_begins_208 : decode cX12_begins 208 = .ok (.aload_n 0, 1) := by decide +kernel
theorem dX12_begins_209 : decode cX12_begins 209 = .ok (.aload_n 0, 1) := by decide +kernel
theorem dX12_begins_210 : decode cX12_begins 210 = .ok (.getfield 22, 3) := by decide +kernel
theorem dX12_begins_213 : decode cX12_begins 213 = .ok (.aload_n 0, 1) := by decide +kernel
theorem dX12_begins_214 : decode cX12_begins 214 = .ok (.getfield 121, 3) := by decide +kernel
theorem dX12_begins_217 : decode cX12_begins 217 = .ok (.iaload, 1) := by decide +kernel
theorem dX12_begins_218 : decode cX12_begins 218 = .ok (.invokevirtual 170, 3) := by decide +kernel
theorem dX12_begins_221 : decode cX12_begins 221 = .ok (.ifCond .eq 20, 3) := by decide +kernel
theorem dX12_begins_224 : decode cX12_begins 224 = .ok (.aload_n 0, 1) := by decide +kernel
theorem dX12_begins_225 : decode cX12_begins 225 = .ok (.iconst 2, 1) := by decide +kernel
theorem dX12_begins_226 : decode cX12_begins 226 = .ok (.aload_n 0, 1) := by decide +kernel
theorem dX12_begins_227 : decode cX12_begins 227 = .ok (.getfield 22, 3) := by decide +kernel
theorem dX12_begins_230 : decode cX12_begins 230 = .ok (.aload_n 0, 1) := by decide +kernel
theorem dX12_begins_231 : decode cX12_begins 231 = .ok (.getfield 121, 3) := by decide +kernel
theorem dX12_begins_234 : decode cX12_begins 234 = .ok (.iaload, 1) := by decide +kernel
theorem dX12_begins_235 : decode cX12_begins 235 = .ok (.invokevirtual 154, 3) := by decide +kernel
theorem dX12_begins_238 : decode cX12_begins 238 = .ok (.goto 9, 3) := by decide +kernel
theorem dX12_begins_241 : decode cX12_begins 241 = .ok (.aload_n 0, 1) := by decide +kernel
theorem dX12_begins_242 : decode cX12_begins 242 = .ok (.invokevirtual 139, 3) := by decide +kernel
theorem dX12_begins_245 : decode cX12_begins 245 = .ok (.iconst 0, 1) := by decide +kernel
theorem dX12_begins_246 : decode cX12_begins 246 = .ok (.ireturn, 1) := by decide +kernel
theorem dX12_begins_247 : decode cX12_begins 247 = .ok (.aload_n 0, 1) := by decide +kernel
theorem dX12_begins_248 : decode cX12_begins 248 = .ok (.dup, 1) := by decide +kernel
theorem dX12_begins_249 : decode cX12_begins 249 = .ok (.getfield 173, 3) := by decide +kernel
theorem dX12_begins_252 : decode cX12_begins 252 = .ok (.iconst 1, 1) := by decide +kernel
theorem dX12_begins_253 : decode cX12_begins 253 = .ok (.iadd, 1) := by decide +kernel
theorem dX12_begins_254 : decode cX12_begins 254 = .ok (.putfield 173, 3) := by decide +kernel
theorem dX12_begins_257 : decode cX12_begins 257 = .ok (.aload_n 0, 1) := by decide +kernel
theorem dX12_begins_258 : decode cX12_begins 258 = .ok (.invokevirtual 167, 3) := by decide +kernel
theorem dX12_begins_261 : decode cX12_begins 261 = .ok (.aload_n 0, 1) := by decide +kernel
theorem dX12_begins_262 : decode cX12_begins 262 = .ok (.invokevirtual 176, 3) := by decide +kernel
theorem dX12_begins_265 : decode cX12_begins 265 = .ok (.iconst 0, 1) := by decide +kernel
theorem dX12_begins_266 : decode cX12_begins 266 = .ok (.ireturn, 1) := by decide +kernel
theorem dX12_signHere_0 : decode cX12_signHere 0 = .ok (.aload_n 0, 1) := by decide +kernel
theorem dX12_signHere_1 : decode cX12_signHere 1 = .ok (.getfield 133, 3) := by decide +kernel
theorem dX12_signHere_4 : decode cX12_signHere 4 = .ok (.iconst 3, 1) := by decide +kernel
theorem dX12_signHere_5 : decode cX12_signHere 5 = .ok (.if_icmp .eq 5, 3) := by decide +kernel
theorem dX12_signHere_8 : decode cX12_signHere 8 = .ok (.iconst 0, 1) := by decide +kernel
theorem dX12_signHere_9 : decode cX12_signHere 9 = .ok (.ireturn, 1) := by decide +kernel
theorem dX12_signHere_10 : decode cX12_signHere 10 = .ok (.aload_n 0, 1) := by decide +kernel
theorem dX12_signHere_11 : decode cX12_signHere 11 = .ok (.getfield 22, 3) := by decide +kernel
theorem dX12_signHere_14 : decode cX12_signHere 14 = .ok (.aload_n 0, 1) := by decide +kernel
theorem dX12_signHere_15 : decode cX12_signHere 15 = .ok (.getfield 121, 3) := by decide +kernel
theorem dX12_signHere_18 : decode cX12_signHere 18 = .ok (.iaload, 1) := by decide +kernel
theorem dX12_signHere_19 : decode cX12_signHere 19 = .ok (.lookupswitch 108 #[(38, 84), (42, 102), (43, 96), (45, 99), (47, 105), (60, 87), (61, 90), (62, 93), (124, 81)], 81) := by decide +kernel
theorem dX12_signHere_100 : decode cX12_signHere 100 = .ok (.bipush 10, 2) := by decide +kernel
theorem dX12_signHere_102 : decode cX12_signHere 102 = .ok (.ireturn, 1) := by decide +kernel
theorem dX12_signHere_103 : decode cX12_signHere 103 = .ok (.bipush 20, 2) := by decide +kernel
theorem dX12_signHere_105 : decode cX12_signHere 105 = .ok (.ireturn, 1) := by decide +kernel
theorem dX12_signHere_106 : decode cX12_signHere 106 = .ok (.bipush 30, 2) := by decide +kernel
theorem dX12_signHere_108 : decode cX12_signHere 108 = .ok (.ireturn, 1) := by decide +kernel
theorem dX12_signHere_109 : decode cX12_signHere 109 = .ok (.bipush 31, 2) := by decide +kernel
theorem dX12_signHere_111 : decode cX12_signHere 111 = .ok (.ireturn, 1) := by decide +kernel
theorem dX12_signHere_112 : decode cX12_signHere 112 = .ok (.bipush 32, 2) := by decide +kernel
theorem dX12_signHere_114 : decode cX12_signHere 114 = .ok (.ireturn, 1) := by decide +kernel
theorem dX12_signHere_115 : decode cX12_signHere 115 = .ok (.bipush 40, 2) := by decide +kernel
theorem dX12_signHere_117 : decode cX12_signHere 117 = .ok (.ireturn, 1) := by decide +kernel
theorem dX12_signHere_118 : decode cX12_signHere 118 = .ok (.bipush 41, 2) := by decide +kernel
theorem dX12_signHere_120 : decode cX12_signHere 120 = .ok (.ireturn, 1) := by decide +kernel
theorem dX12_signHere_121 : decode cX12_signHere 121 = .ok (.bipush 50, 2) := by decide +kernel
theorem dX12_signHere_123 : decode cX12_signHere 123 = .ok (.ireturn, 1) := by decide +kernel
theorem dX12_signHere_124 : decode cX12_signHere 124 = .ok (.bipush 51, 2) := by decide +kernel
theorem dX12_signHere_126 : decode cX12_signHere 126 = .ok (.ireturn, 1) := by decide +kernel
theorem dX12_signHere_127 : decode cX12_signHere 127 = .ok (.iconst 0, 1) := by decide +kernel
theorem dX12_signHere_128 : decode cX12_signHere 128 = .ok (.ireturn, 1) := by decide +kernel
theorem dX12_expression_0 : decode cX12_expression 0 = .ok (.aload_n 0, 1) := by decide +kernel
theorem dX12_expression_1 : decode cX12_expression 1 = .ok (.iconst 0, 1) := by decide +kernel
theorem dX12_expression_2 : decode cX12_expression 2 = .ok (.putfield 151, 3) := by decide +kernel
theorem dX12_expression_5 : decode cX12_expression 5 = .ok (.aload_n 0, 1) := by decide +kernel
theorem dX12_expression_6 : decode cX12_expression 6 = .ok (.iconst 0, 1) := by decide +kernel
theorem dX12_expression_7 : decode cX12_expression 7 = .ok (.putfield 164, 3) := by decide +kernel
theorem dX12_expression_10 : decode cX12_expression 10 = .ok (.aload_n 0, 1) := by decide +kernel
theorem dX12_expression_11 : decode cX12_expression 11 = .ok (.iconst 0, 1) := by decide +kernel
theorem dX12_expression_12 : decode cX12_expression 12 = .ok (.putfield 158, 3) := by decide +kernel
theorem dX12_expression_15 : decode cX12_expression 15 = .ok (.iconst 1, 1) := by decide +kernel
theorem dX12_expression_16 : decode cX12_expression 16 = .ok (.istore_n 1, 1) := by decide +kernel
theorem dX12_expression_17 : decode cX12_expression 17 = .ok (.iconst 1, 1) := by decide +kernel
theorem dX12_expression_18 : decode cX12_expression 18 = .ok (.istore_n 2, 1) := by decide +kernel
theorem dX12_expression_19 : decode cX12_expression 19 = .ok (.iload_n 2, 1) := by decide +kernel
theorem dX12_expression_20 : decode cX12_expression 20 = .ok (.ifCond .eq 188, 3) := by decide +kernel
theorem dX12_expression_23 : decode cX12_expression 23 = .ok (.aload_n 0, 1) := by decide +kernel
theorem dX12_expression_24 : decode cX12_expression 24 = .ok (.getfield 117, 3) := by decide +kernel
theorem dX12_expression_27 : decode cX12_expression 27 = .ok (.ifCond .ne 181, 3) := by decide +kernel
theorem dX12_expression_30 : decode cX12_expression 30 = .ok (.iload_n 1, 1) := by decide +kernel
theorem dX12_expression_31 : decode cX12_expression 31 = .ok (.ifCond .eq 11, 3) := by decide +kernel
theorem dX12_expression_34 : decode cX12_expression 34 = .ok (.aload_n 0, 1) := by decide +kernel
theorem dX12_expression_35 : decode cX12_expression 35 = .ok (.invokevirtual 179, 3) := by decide +kernel
theorem dX12_expression_38 : decode cX12_expression 38 = .ok (.istore_n 1, 1) := by decide +kernel
theorem dX12_expression_39 : decode cX12_expression 39 = .ok (.goto (-20), 3) := by decide +kernel
theorem dX12_expression_42 : decode cX12_expression 42 = .ok (.aload_n 0, 1) := by decide +kernel
theorem dX12_expression_43 : decode cX12_expression 43 = .ok (.invokevirtual 183, 3) := by decide +kernel
theorem dX12_expression_46 : decode cX12_expression 46 = .ok (.istore_n 3, 1) := by decide +kernel
theorem dX12_expression_47 : decode cX12_expression 47 = .ok (.iload_n 3, 1) := by decide +kernel
theorem dX12_expression_48 : decode cX12_expression 48 = .ok (.ifCond .eq 92, 3) := by decide +kernel
theorem dX12_expression_51 : decode cX12_expression 51 = .ok (.aload_n 0, 1) := by decide +kernel
theorem dX12_expression_52 : decode cX12_expression 52 = .ok (.iload_n 3, 1) := by decide +kernel
theorem dX12_expression_53 : decode cX12_expression 53 = .ok (.bipush 10, 2) := by decide +kernel
theorem dX12_expression_55 : decode cX12_expression 55 = .ok (.idiv, 1) := by decide +kernel
theorem dX12_expression_56 : decode cX12_expression 56 = .ok (.iconst 3, 1) := by decide +kernel
theorem dX12_expression_57 : decode cX12_expression 57 = .ok (.if_icmp .ne 7, 3) := by decide +kernel
theorem dX12_expression_60 : decode cX12_expression 60 = .ok (.iconst 4, 1) := by decide +kernel
theorem dX12_expression_61 : decode cX12_expression 61 = .ok (.goto 7, 3) := by decide +kernel
theorem dX12_expression_64 : decode cX12_expression 64 = .ok (.iload_n 3, 1) := by decide +kernel
theorem dX12_expression_65 : decode cX12_expression 65 = .ok (.bipush 10, 2) := by decide +kernel
theorem dX12_expression_67 : decode cX12_expression 67 = .ok (.idiv, 1) := by decide +kernel
theorem dX12_expression_68 : decode cX12_expression 68 = .ok (.invokevirtual 187, 3) := by decide +kernel
theorem dX12_expression_71 : decode cX12_expression 71 = .ok (.iload_n 3, 1) := by decide +kernel
theorem dX12_expression_72 : decode cX12_expression 72 = .ok (.bipush 10, 2) := by decide +kernel
theorem dX12_expression_74 : decode cX12_expression 74 = .ok (.idiv, 1) := by decide +kernel
theorem dX12_expression_75 : decode cX12_expression 75 = .ok (.iconst 3, 1) := by decide +kernel
theorem dX12_expression_76 : decode cX12_expression 76 = .ok (.if_icmp .ne 35, 3) := by decide +kernel
theorem dX12_expression_79 : decode cX12_expression 79 = .ok (.aload_n 0, 1) := by decide +kernel
theorem dX12_expression_80 : decode cX12_expression 80 = .ok (.getfield 151, 3) := by decide +kernel
theorem dX12_expression_83 : decode cX12_expression 83 = .ok (.ifCond .le 28, 3) := by decide +kernel
theorem dX12_expression_86 : decode cX12_expression 86 = .ok (.aload_n 0, 1) := by decide +kernel
theorem dX12_expression_87 : decode cX12_expression 87 = .ok (.getfield 28, 3) := by decide +kernel
theorem dX12_expression_90 : decode cX12_expression 90 = .ok (.aload_n 0, 1) := by decide +kernel
theorem dX12_expression_91 : decode cX12_expression 91 = .ok (.getfield 151, 3) := by decide +kernel
theorem dX12_expression_94 : decode cX12_expression 94 = .ok (.iconst 1, 1) := by decide +kernel
theorem dX12_expression_95 : decode cX12_expression 95 = .ok (.isub, 1) := by decide +kernel
theorem dX12_expression_96 : decode cX12_expression 96 = .ok (.iaload, 1) := by decide +kernel
theorem dX12_expression_97 : decode cX12_expression 97 = .ok (.bipush 10, 2) := by decide +kernel
theorem dX12_expression_99 : decode cX12_expression 99 = .ok (.idiv, 1) := by decide +kernel
theorem dX12_expression_100 : decode cX12_expression 100 = .ok (.iconst 3, 1) := by decide +kernel
theorem dX12_expression_101 : decode cX12_expression 101 = .ok (.if_icmp .ne 10, 3) := by decide +kernel
theorem dX12_expression_104 : decode cX12_expression 104 = .ok (.aload_n 0, 1) := by decide +kernel
theorem dX12_expression_105 : decode cX12_expression 105 = .ok (.invokevirtual 139, 3) := by decide +kernel
theorem dX12_expression_108 : decode cX12_expression 108 = .ok (.goto 97, 3) := by decide +kernel
theorem dX12_expression_111 : decode cX12_expression 111 = .ok (.aload_n 0, 1) := by decide +kernel
theorem dX12_expression_112 : decode cX12_expression 112 = .ok (.getfield 28, 3) := by decide +kernel
theorem dX12_expression_115 : decode cX12_expression 115 = .ok (.aload_n 0, 1) := by decide +kernel
theorem dX12_expression_116 : decode cX12_expression 116 = .ok (.getfield 151, 3) := by decide +kernel
theorem dX12_expression_119 : decode cX12_expression 119 = .ok (.iload_n 3, 1) := by decide +kernel
theorem dX12_expression_120 : decode cX12_expression 120 = .ok (.iastore, 1) := by decide +kernel
theorem dX12_expression_121 : decode cX12_expression 121 = .ok (.aload_n 0, 1) := by decide +kernel
theorem dX12_expression_122 : decode cX12_expression 122 = .ok (.dup, 1) := by decide +kernel
theorem dX12_expression_123 : decode cX12_expression 123 = .ok (.getfield 151, 3) := by decide +kernel
theorem dX12_expression_126 : decode cX12_expression 126 = .ok (.iconst 1, 1) := by decide +kernel
theorem dX12_expression_127 : decode cX12_expression 127 = .ok (.iadd, 1) := by decide +kernel
theorem dX12_expression_128 : decode cX12_expression 128 = .ok (.putfield 151, 3) := by decide +kernel
theorem dX12_expression_131 : decode cX12_expression 131 = .ok (.iconst 1, 1) := by decide +kernel
theorem dX12_expression_132 : decode cX12_expression 132 = .ok (.istore_n 1, 1) := by decide +kernel
theorem dX12_expression_133 : decode cX12_expression 133 = .ok (.aload_n 0, 1) := by decide +kernel
theorem dX12_expression_134 : decode cX12_expression 134 = .ok (.invokevirtual 167, 3) := by decide +kernel
theorem dX12_expression_137 : decode cX12_expression 137 = .ok (.goto 68, 3) := by decide +kernel
theorem dX12_expression_140 : decode cX12_expression 140 = .ok (.aload_n 0, 1) := by decide +kernel
theorem dX12_expression_141 : decode cX12_expression 141 = .ok (.bipush 41, 2) := by decide +kernel
theorem dX12_expression_143 : decode cX12_expression 143 = .ok (.invokevirtual 161, 3) := by decide +kernel
theorem dX12_expression_146 : decode cX12_expression 146 = .ok (.ifCond .eq 46, 3) := by decide +kernel
theorem dX12_expression_149 : decode cX12_expression 149 = .ok (.aload_n 0, 1) := by decide +kernel
theorem dX12_expression_150 : decode cX12_expression 150 = .ok (.getfield 164, 3) := by decide +kernel
theorem dX12_expression_153 : decode cX12_expression 153 = .ok (.ifCond .le 39, 3) := by decide +kernel
theorem dX12_expression_156 : decode cX12_expression 156 = .ok (.aload_n 0, 1) := by decide +kernel
theorem dX12_expression_157 : decode cX12_expression 157 = .ok (.iconst 1, 1) := by decide +kernel
theorem dX12_expression_158 : decode cX12_expression 158 = .ok (.invokevirtual 187, 3) := by decide +kernel
theorem dX12_expression_161 : decode cX12_expression 161 = .ok (.aload_n 0, 1) := by decide +kernel
theorem dX12_expression_162 : decode cX12_expression 162 = .ok (.dup, 1) := by decide +kernel
theorem dX12_expression_163 : decode cX12_expression 163 = .ok (.getfield 151, 3) := by decide +kernel
theorem dX12_expression_166 : decode cX12_expression 166 = .ok (.iconst 1, 1) := by decide +kernel
theorem dX12_expression_167 : decode cX12_expression 167 = .ok (.isub, 1) := by decide +kernel
theorem dX12_expression_168 : decode cX12_expression 168 = .ok (.putfield 151, 3) := by decide +kernel
theorem dX12_expression_171 : decode cX12_expression 171 = .ok (.aload_n 0, 1) := by decide +kernel
theorem dX12_expression_172 : decode cX12_expression 172 = .ok (.dup, 1) := by decide +kernel
theorem dX12_expression_173 : decode cX12_expression 173 = .ok (.getfield 164, 3) := by decide +kernel
theorem dX12_expression_176 : decode cX12_expression 176 = .ok (.iconst 1, 1) := by decide +kernel
theorem dX12_expression_177 : decode cX12_expression 177 = .ok (.isub, 1) := by decide +kernel
theorem dX12_expression_178 : decode cX12_expression 178 = .ok (.putfield 164, 3) := by decide +kernel
theorem dX12_expression_181 : decode cX12_expression 181 = .ok (.aload_n 0, 1) := by decide +kernel
theorem dX12_expression_182 : decode cX12_expression 182 = .ok (.invokevirtual 167, 3) := by decide +kernel
theorem dX12_expression_185 : decode cX12_expression 185 = .ok (.aload_n 0, 1) := by decide +kernel
theorem dX12_expression_186 : decode cX12_expression 186 = .ok (.invokevirtual 176, 3) := by decide +kernel
theorem dX12_expression_189 : decode cX12_expression 189 = .ok (.goto 16, 3) := by decide +kernel
theorem dX12_expression_192 : decode cX12_expression 192 = .ok (.iconst 0, 1) := by decide +kernel
theorem dX12_expression_193 : decode cX12_expression 193 = .ok (.istore_n 2, 1) := by decide +kernel
theorem dX12_expression_194 : decode cX12_expression 194 = .ok (.aload_n 0, 1) := by decide +kernel
theorem dX12_expression_195 : decode cX12_expression 195 = .ok (.getfield 164, 3) := by decide +kernel
theorem dX12_expression_198 : decode cX12_expression 198 = .ok (.ifCond .le 7, 3) := by decide +kernel
theorem dX12_expression_201 : decode cX12_expression 201 = .ok (.aload_n 0, 1) := by decide +kernel
theorem dX12_expression_202 : decode cX12_expression 202 = .ok (.invokevirtual 139, 3) := by decide +kernel
theorem dX12_expression_205 : decode cX12_expression 205 = .ok (.goto (-186), 3) := by decide +kernel
theorem dX12_expression_208 : decode cX12_expression 208 = .ok (.aload_n 0, 1) := by decide +kernel
theorem dX12_expression_209 : decode cX12_expression 209 = .ok (.getfield 117, 3) := by decide +kernel
theorem dX12_expression_212 : decode cX12_expression 212 = .ok (.ifCond .ne 8, 3) := by decide +kernel
theorem dX12_expression_215 : decode cX12_expression 215 = .ok (.aload_n 0, 1) := by decide +kernel
theorem dX12_expression_216 : decode cX12_expression 216 = .ok (.iconst 1, 1) := by decide +kernel
theorem dX12_expression_217 : decode cX12_expression 217 = .ok (.invokevirtual 187, 3) := by decide +kernel
theorem dX12_expression_220 : decode cX12_expression 220 = .ok (.return_, 1) := by decide +kernel
theorem dX12_reads_0 : decode cX12_reads 0 = .ok (.aload_n 0, 1) := by decide +kernel
theorem dX12_reads_1 : decode cX12_reads 1 = .ok (.getfield 117, 3) := by decide +kernel
theorem dX12_reads_4 : decode cX12_reads 4 = .ok (.ifCond .eq 4, 3) := by decide +kernel
theorem dX12_reads_7 : decode cX12_reads 7 = .ok (.return_, 1) := by decide +kernel
theorem dX12_reads_8 : decode cX12_reads 8 = .ok (.aload_n 0, 1) := by decide +kernel
theorem dX12_reads_9 : decode cX12_reads 9 = .ok (.iload_n 1, 1) := by decide +kernel
theorem dX12_reads_10 : decode cX12_reads 10 = .ok (.putfield 145, 3) := by decide +kernel
theorem dX12_reads_13 : decode cX12_reads 13 = .ok (.aload_n 0, 1) := by decide +kernel
theorem dX12_reads_14 : decode cX12_reads 14 = .ok (.iconst 0, 1) := by decide +kernel
theorem dX12_reads_15 : decode cX12_reads 15 = .ok (.putfield 148, 3) := by decide +kernel
theorem dX12_reads_18 : decode cX12_reads 18 = .ok (.iload_n 2, 1) := by decide +kernel
theorem dX12_reads_19 : decode cX12_reads 19 = .ok (.ifCond .ne 7, 3) := by decide +kernel
theorem dX12_reads_22 : decode cX12_reads 22 = .ok (.aload_n 0, 1) := by decide +kernel
theorem dX12_reads_23 : decode cX12_reads 23 = .ok (.invokevirtual 139, 3) := by decide +kernel
theorem dX12_reads_26 : decode cX12_reads 26 = .ok (.aload_n 0, 1) := by decide +kernel
theorem dX12_reads_27 : decode cX12_reads 27 = .ok (.invokevirtual 167, 3) := by decide +kernel
theorem dX12_reads_30 : decode cX12_reads 30 = .ok (.aload_n 0, 1) := by decide +kernel
theorem dX12_reads_31 : decode cX12_reads 31 = .ok (.invokevirtual 191, 3) := by decide +kernel
theorem dX12_reads_34 : decode cX12_reads 34 = .ok (.aload_n 0, 1) := by decide +kernel
theorem dX12_reads_35 : decode cX12_reads 35 = .ok (.getfield 25, 3) := by decide +kernel
theorem dX12_reads_38 : decode cX12_reads 38 = .ok (.sipush 241, 3) := by decide +kernel
theorem dX12_reads_41 : decode cX12_reads 41 = .ok (.iload_n 1, 1) := by decide +kernel
theorem dX12_reads_42 : decode cX12_reads 42 = .ok (.imul, 1) := by decide +kernel
theorem dX12_reads_43 : decode cX12_reads 43 = .ok (.aload_n 0, 1) := by decide +kernel
theorem dX12_reads_44 : decode cX12_reads 44 = .ok (.getfield 148, 3) := by decide +kernel
theorem dX12_reads_47 : decode cX12_reads 47 = .ok (.iastore, 1) := by decide +kernel
theorem dX12_reads_48 : decode cX12_reads 48 = .ok (.return_, 1) := by decide +kernel
theorem dX12_termsOf_0 : decode cX12_termsOf 0 = .ok (.iconst 0, 1) := by decide +kernel
theorem dX12_termsOf_1 : decode cX12_termsOf 1 = .ok (.istore_n 2, 1) := by decide +kernel
theorem dX12_termsOf_2 : decode cX12_termsOf 2 = .ok (.iconst 0, 1) := by decide +kernel
theorem dX12_termsOf_3 : decode cX12_termsOf 3 = .ok (.istore_n 3, 1) := by decide +kernel
theorem dX12_termsOf_4 : decode cX12_termsOf 4 = .ok (.iload_n 3, 1) := by decide +kernel
theorem dX12_termsOf_5 : decode cX12_termsOf 5 = .ok (.aload_n 0, 1) := by decide +kernel
theorem dX12_termsOf_6 : decode cX12_termsOf 6 = .ok (.getfield 7, 3) := by decide +kernel
theorem dX12_termsOf_9 : decode cX12_termsOf 9 = .ok (.bipush 9, 2) := by decide +kernel
theorem dX12_termsOf_11 : decode cX12_termsOf 11 = .ok (.iaload, 1) := by decide +kernel
theorem dX12_termsOf_12 : decode cX12_termsOf 12 = .ok (.if_icmp .ge 35, 3) := by decide +kernel
theorem dX12_termsOf_15 : decode cX12_termsOf 15 = .ok (.iload_n 2, 1) := by decide +kernel
theorem dX12_termsOf_16 : decode cX12_termsOf 16 = .ok (.aload_n 0, 1) := by decide +kernel
theorem dX12_termsOf_17 : decode cX12_termsOf 17 = .ok (.getfield 7, 3) := by decide +kernel
theorem dX12_termsOf_20 : decode cX12_termsOf 20 = .ok (.sipush 1840, 3) := by decide +kernel
theorem dX12_termsOf_23 : decode cX12_termsOf 23 = .ok (.sipush 484, 3) := by decide +kernel
theorem dX12_termsOf_26 : decode cX12_termsOf 26 = .ok (.iload_n 3, 1) := by decide +kernel
theorem dX12_termsOf_27 : decode cX12_termsOf 27 = .ok (.imul, 1) := by decide +kernel
theorem dX12_termsOf_28 : decode cX12_termsOf 28 = .ok (.iadd, 1) := by decide +kernel
theorem dX12_termsOf_29 : decode cX12_termsOf 29 = .ok (.iaload, 1) := by decide +kernel
theorem dX12_termsOf_30 : decode cX12_termsOf 30 = .ok (.iload_n 1, 1) := by decide +kernel
theorem dX12_termsOf_31 : decode cX12_termsOf 31 = .ok (.if_icmp .ne 7, 3) := by decide +kernel
theorem dX12_termsOf_34 : decode cX12_termsOf 34 = .ok (.iconst 1, 1) := by decide +kernel
theorem dX12_termsOf_35 : decode cX12_termsOf 35 = .ok (.goto 4, 3) := by decide +kernel
theorem dX12_termsOf_38 : decode cX12_termsOf 38 = .ok (.iconst 0, 1) := by decide +kernel
theorem dX12_termsOf_39 : decode cX12_termsOf 39 = .ok (.iadd, 1) := by decide +kernel
theorem dX12_termsOf_40 : decode cX12_termsOf 40 = .ok (.istore_n 2, 1) := by decide +kernel
theorem dX12_termsOf_41 : decode cX12_termsOf 41 = .ok (.iinc 3 1, 3) := by decide +kernel
theorem dX12_termsOf_44 : decode cX12_termsOf 44 = .ok (.goto (-40), 3) := by decide +kernel
theorem dX12_termsOf_47 : decode cX12_termsOf 47 = .ok (.iload_n 2, 1) := by decide +kernel
theorem dX12_termsOf_48 : decode cX12_termsOf 48 = .ok (.ireturn, 1) := by decide +kernel
theorem dX12_terms_0 : decode cX12_terms 0 = .ok (.aload_n 0, 1) := by decide +kernel
theorem dX12_terms_1 : decode cX12_terms 1 = .ok (.aload_n 0, 1) := by decide +kernel
theorem dX12_terms_2 : decode cX12_terms 2 = .ok (.getfield 113, 3) := by decide +kernel
theorem dX12_terms_5 : decode cX12_terms 5 = .ok (.putfield 130, 3) := by decide +kernel
theorem dX12_terms_8 : decode cX12_terms 8 = .ok (.aload_n 0, 1) := by decide +kernel
theorem dX12_terms_9 : decode cX12_terms 9 = .ok (.iconst 0, 1) := by decide +kernel
theorem dX12_terms_10 : decode cX12_terms 10 = .ok (.putfield 113, 3) := by decide +kernel
theorem dX12_terms_13 : decode cX12_terms 13 = .ok (.aload_n 0, 1) := by decide +kernel
theorem dX12_terms_14 : decode cX12_terms 14 = .ok (.iload_n 1, 1) := by decide +kernel
theorem dX12_terms_15 : decode cX12_terms 15 = .ok (.invokevirtual 78, 3) := by decide +kernel
theorem dX12_terms_18 : decode cX12_terms 18 = .ok (.ifCond .eq 14, 3) := by decide +kernel
theorem dX12_terms_21 : decode cX12_terms 21 = .ok (.iload_n 2, 1) := by decide +kernel
theorem dX12_terms_22 : decode cX12_terms 22 = .ok (.iconst 0, 1) := by decide +kernel
theorem dX12_terms_23 : decode cX12_terms 23 = .ok (.sipush 900, 3) := by decide +kernel
theorem dX12_terms_26 : decode cX12_terms 26 = .ok (.invokestatic 68, 3) := by decide +kernel
theorem dX12_terms_29 : decode cX12_terms 29 = .ok (.ifCond .ne 6, 3) := by decide +kernel
theorem dX12_terms_32 : decode cX12_terms 32 = .ok (.ldc 72, 2) := by decide +kernel
theorem dX12_terms_34 : decode cX12_terms 34 = .ok (.ireturn, 1) := by decide +kernel
theorem dX12_terms_35 : decode cX12_terms 35 = .ok (.aload_n 0, 1) := by decide +kernel
theorem dX12_terms_36 : decode cX12_terms 36 = .ok (.iconst 0, 1) := by decide +kernel
theorem dX12_terms_37 : decode cX12_terms 37 = .ok (.putfield 127, 3) := by decide +kernel
theorem dX12_terms_40 : decode cX12_terms 40 = .ok (.aload_n 0, 1) := by decide +kernel
theorem dX12_terms_41 : decode cX12_terms 41 = .ok (.iconst 0, 1) := by decide +kernel
theorem dX12_terms_42 : decode cX12_terms 42 = .ok (.putfield 133, 3) := by decide +kernel
theorem dX12_terms_45 : decode cX12_terms 45 = .ok (.aload_n 0, 1) := by decide +kernel
theorem dX12_terms_46 : decode cX12_terms 46 = .ok (.iconst 0, 1) := by decide +kernel
theorem dX12_terms_47 : decode cX12_terms 47 = .ok (.putfield 117, 3) := by decide +kernel
theorem dX12_terms_50 : decode cX12_terms 50 = .ok (.aload_n 0, 1) := by decide +kernel
theorem dX12_terms_51 : decode cX12_terms 51 = .ok (.iconst 0, 1) := by decide +kernel
theorem dX12_terms_52 : decode cX12_terms 52 = .ok (.putfield 173, 3) := by decide +kernel
theorem dX12_terms_55 : decode cX12_terms 55 = .ok (.aload_n 0, 1) := by decide +kernel
theorem dX12_terms_56 : decode cX12_terms 56 = .ok (.invokevirtual 167, 3) := by decide +kernel
theorem dX12_terms_59 : decode cX12_terms 59 = .ok (.aload_n 0, 1) := by decide +kernel
theorem dX12_terms_60 : decode cX12_terms 60 = .ok (.iconst 0, 1) := by decide +kernel
theorem dX12_terms_61 : decode cX12_terms 61 = .ok (.aload_n 0, 1) := by decide +kernel
theorem dX12_terms_62 : decode cX12_terms 62 = .ok (.bipush 112, 2) := by decide +kernel
theorem dX12_terms_64 : decode cX12_terms 64 = .ok (.bipush 97, 2) := by decide +kernel
theorem dX12_terms_66 : decode cX12_terms 66 = .ok (.bipush 114, 2) := by decide +kernel
theorem dX12_terms_68 : decode cX12_terms 68 = .ok (.bipush 116, 2) := by decide +kernel
theorem dX12_terms_70 : decode cX12_terms 70 = .ok (.bipush 115, 2) := by decide +kernel
theorem dX12_terms_72 : decode cX12_terms 72 = .ok (.invokevirtual 194, 3) := by decide +kernel
theorem dX12_terms_75 : decode cX12_terms 75 = .ok (.invokevirtual 198, 3) := by decide +kernel
theorem dX12_terms_78 : decode cX12_terms 78 = .ok (.aload_n 0, 1) := by decide +kernel
theorem dX12_terms_79 : decode cX12_terms 79 = .ok (.iconst 1, 1) := by decide +kernel
theorem dX12_terms_80 : decode cX12_terms 80 = .ok (.aload_n 0, 1) := by decide +kernel
theorem dX12_terms_81 : decode cX12_terms 81 = .ok (.bipush 114, 2) := by decide +kernel
theorem dX12_terms_83 : decode cX12_terms 83 = .ok (.bipush 97, 2) := by decide +kernel
theorem dX12_terms_85 : decode cX12_terms 85 = .ok (.bipush 116, 2) := by decide +kernel
theorem dX12_terms_87 : decode cX12_terms 87 = .ok (.bipush 101, 2) := by decide +kernel
theorem dX12_terms_89 : decode cX12_terms 89 = .ok (.iconst 0, 1) := by decide +kernel
theorem dX12_terms_90 : decode cX12_terms 90 = .ok (.invokevirtual 194, 3) := by decide +kernel
theorem dX12_terms_93 : decode cX12_terms 93 = .ok (.invokevirtual 198, 3) := by decide +kernel
theorem dX12_terms_96 : decode cX12_terms 96 = .ok (.aload_n 0, 1) := by decide +kernel
theorem dX12_terms_97 : decode cX12_terms 97 = .ok (.getfield 117, 3) := by decide +kernel
theorem dX12_terms_100 : decode cX12_terms 100 = .ok (.ifCond .ne 14, 3) := by decide +kernel
theorem dX12_terms_103 : decode cX12_terms 103 = .ok (.aload_n 0, 1) := by decide +kernel
theorem dX12_terms_104 : decode cX12_terms 104 = .ok (.getfield 133, 3) := by decide +kernel
theorem dX12_terms_107 : decode cX12_terms 107 = .ok (.ifCond .eq 7, 3) := by decide +kernel
theorem dX12_terms_110 : decode cX12_terms 110 = .ok (.aload_n 0, 1) := by decide +kernel
theorem dX12_terms_111 : decode cX12_terms 111 = .ok (.invokevirtual 139, 3) := by decide +kernel
theorem dX12_terms_114 : decode cX12_terms 114 = .ok (.aload_n 0, 1) := by decide +kernel
theorem dX12_terms_115 : decode cX12_terms 115 = .ok (.getfield 117, 3) := by decide +kernel
theorem dX12_terms_118 : decode cX12_terms 118 = .ok (.ifCond .eq 11, 3) := by decide +kernel
theorem dX12_terms_121 : decode cX12_terms 121 = .ok (.bipush (-100), 2) := by decide +kernel
theorem dX12_terms_123 : decode cX12_terms 123 = .ok (.aload_n 0, 1) := by decide +kernel
theorem dX12_terms_124 : decode cX12_terms 124 = .ok (.getfield 124, 3) := by decide +kernel
theorem dX12_terms_127 : decode cX12_terms 127 = .ok (.isub, 1) := by decide +kernel
theorem dX12_terms_128 : decode cX12_terms 128 = .ok (.ireturn, 1) := by decide +kernel
theorem dX12_terms_129 : decode cX12_terms 129 = .ok (.aload_n 0, 1) := by decide +kernel
theorem dX12_terms_130 : decode cX12_terms 130 = .ok (.iload_n 1, 1) := by decide +kernel
theorem dX12_terms_131 : decode cX12_terms 131 = .ok (.invokevirtual 202, 3) := by decide +kernel
theorem dX12_terms_134 : decode cX12_terms 134 = .ok (.iconst 3, 1) := by decide +kernel
theorem dX12_terms_135 : decode cX12_terms 135 = .ok (.if_icmp .ne 6, 3) := by decide +kernel
theorem dX12_terms_138 : decode cX12_terms 138 = .ok (.ldc 73, 2) := by decide +kernel
theorem dX12_terms_140 : decode cX12_terms 140 = .ok (.ireturn, 1) := by decide +kernel
theorem dX12_terms_141 : decode cX12_terms 141 = .ok (.sipush 1840, 3) := by decide +kernel
theorem dX12_terms_144 : decode cX12_terms 144 = .ok (.sipush 484, 3) := by decide +kernel
theorem dX12_terms_147 : decode cX12_terms 147 = .ok (.aload_n 0, 1) := by decide +kernel
theorem dX12_terms_148 : decode cX12_terms 148 = .ok (.getfield 7, 3) := by decide +kernel
theorem dX12_terms_151 : decode cX12_terms 151 = .ok (.bipush 9, 2) := by decide +kernel
theorem dX12_terms_153 : decode cX12_terms 153 = .ok (.iaload, 1) := by decide +kernel
theorem dX12_terms_154 : decode cX12_terms 154 = .ok (.imul, 1) := by decide +kernel
theorem dX12_terms_155 : decode cX12_terms 155 = .ok (.iadd, 1) := by decide +kernel
theorem dX12_terms_156 : decode cX12_terms 156 = .ok (.istore_n 3, 1) := by decide +kernel
theorem dX12_terms_157 : decode cX12_terms 157 = .ok (.aload_n 0, 1) := by decide +kernel
theorem dX12_terms_158 : decode cX12_terms 158 = .ok (.getfield 7, 3) := by decide +kernel
theorem dX12_terms_161 : decode cX12_terms 161 = .ok (.iload_n 3, 1) := by decide +kernel
theorem dX12_terms_162 : decode cX12_terms 162 = .ok (.iload_n 1, 1) := by decide +kernel
theorem dX12_terms_163 : decode cX12_terms 163 = .ok (.iastore, 1) := by decide +kernel
theorem dX12_terms_164 : decode cX12_terms 164 = .ok (.aload_n 0, 1) := by decide +kernel
theorem dX12_terms_165 : decode cX12_terms 165 = .ok (.getfield 7, 3) := by decide +kernel
theorem dX12_terms_168 : decode cX12_terms 168 = .ok (.iload_n 3, 1) := by decide +kernel
theorem dX12_terms_169 : decode cX12_terms 169 = .ok (.iconst 1, 1) := by decide +kernel
theorem dX12_terms_170 : decode cX12_terms 170 = .ok (.iadd, 1) := by decide +kernel
theorem dX12_terms_171 : decode cX12_terms 171 = .ok (.iload_n 2, 1) := by decide +kernel
theorem dX12_terms_172 : decode cX12_terms 172 = .ok (.iastore, 1) := by decide +kernel
theorem dX12_terms_173 : decode cX12_terms 173 = .ok (.iconst 0, 1) := by decide +kernel
theorem dX12_terms_174 : decode cX12_terms 174 = .ok (.istore 4, 2) := by decide +kernel
theorem dX12_terms_176 : decode cX12_terms 176 = .ok (.iload 4, 2) := by decide +kernel
theorem dX12_terms_178 : decode cX12_terms 178 = .ok (.sipush 482, 3) := by decide +kernel
theorem dX12_terms_181 : decode cX12_terms 181 = .ok (.if_icmp .ge 27, 3) := by decide +kernel
theorem dX12_terms_184 : decode cX12_terms 184 = .ok (.aload_n 0, 1) := by decide +kernel
theorem dX12_terms_185 : decode cX12_terms 185 = .ok (.getfield 7, 3) := by decide +kernel
theorem dX12_terms_188 : decode cX12_terms 188 = .ok (.iload_n 3, 1) := by decide +kernel
theorem dX12_terms_189 : decode cX12_terms 189 = .ok (.iconst 2, 1) := by decide +kernel
theorem dX12_terms_190 : decode cX12_terms 190 = .ok (.iadd, 1) := by decide +kernel
theorem dX12_terms_191 : decode cX12_terms 191 = .ok (.iload 4, 2) := by decide +kernel
theorem dX12_terms_193 : decode cX12_terms 193 = .ok (.iadd, 1) := by decide +kernel
theorem dX12_terms_194 : decode cX12_terms 194 = .ok (.aload_n 0, 1) := by decide +kernel
theorem dX12_terms_195 : decode cX12_terms 195 = .ok (.getfield 25, 3) := by decide +kernel
theorem dX12_terms_198 : decode cX12_terms 198 = .ok (.iload 4, 2) := by decide +kernel
theorem dX12_terms_200 : decode cX12_terms 200 = .ok (.iaload, 1) := by decide +kernel
theorem dX12_terms_201 : decode cX12_terms 201 = .ok (.iastore, 1) := by decide +kernel
theorem dX12_terms_202 : decode cX12_terms 202 = .ok (.iinc 4 1, 3) := by decide +kernel
theorem dX12_terms_205 : decode cX12_terms 205 = .ok (.goto (-29), 3) := by decide +kernel
theorem dX12_terms_208 : decode cX12_terms 208 = .ok (.aload_n 0, 1) := by decide +kernel
theorem dX12_terms_209 : decode cX12_terms 209 = .ok (.getfield 7, 3) := by decide +kernel
theorem dX12_terms_212 : decode cX12_terms 212 = .ok (.bipush 9, 2) := by decide +kernel
theorem dX12_terms_214 : decode cX12_terms 214 = .ok (.dup2, 1) := by decide +kernel
theorem dX12_terms_215 : decode cX12_terms 215 = .ok (.iaload, 1) := by decide +kernel
theorem dX12_terms_216 : decode cX12_terms 216 = .ok (.iconst 1, 1) := by decide +kernel
theorem dX12_terms_217 : decode cX12_terms 217 = .ok (.iadd, 1) := by decide +kernel
theorem dX12_terms_218 : decode cX12_terms 218 = .ok (.iastore, 1) := by decide +kernel
theorem dX12_terms_219 : decode cX12_terms 219 = .ok (.aload_n 0, 1) := by decide +kernel
theorem dX12_terms_220 : decode cX12_terms 220 = .ok (.getfield 173, 3) := by decide +kernel
theorem dX12_terms_223 : decode cX12_terms 223 = .ok (.ireturn, 1) := by decide +kernel
theorem dX12_both_0 : decode cX12_both 0 = .ok (.iload_n 0, 1) := by decide +kernel
theorem dX12_both_1 : decode cX12_both 1 = .ok (.lookupswitch 148 #[(10, 75), (20, 89), (30, 103), (31, 114), (32, 125), (40, 136), (41, 140), (50, 144)], 75) := by decide +kernel
theorem dX12_both_76 : decode cX12_both 76 = .ok (.iload_n 1, 1) := by decide +kernel
theorem dX12_both_77 : decode cX12_both 77 = .ok (.ifCond .ne 7, 3) := by decide +kernel
theorem dX12_both_80 : decode cX12_both 80 = .ok (.iload_n 2, 1) := by decide +kernel
theorem dX12_both_81 : decode cX12_both 81 = .ok (.ifCond .eq 7, 3) := by decide +kernel
theorem dX12_both_84 : decode cX12_both 84 = .ok (.iconst 1, 1) := by decide +kernel
theorem dX12_both_85 : decode cX12_both 85 = .ok (.goto 4, 3) := by decide +kernel
theorem dX12_both_88 : decode cX12_both 88 = .ok (.iconst 0, 1) := by decide +kernel
theorem dX12_both_89 : decode cX12_both 89 = .ok (.ireturn, 1) := by decide +kernel
theorem dX12_both_90 : decode cX12_both 90 = .ok (.iload_n 1, 1) := by decide +kernel
theorem dX12_both_91 : decode cX12_both 91 = .ok (.ifCond .eq 11, 3) := by decide +kernel
theorem dX12_both_94 : decode cX12_both 94 = .ok (.iload_n 2, 1) := by decide +kernel
theorem dX12_both_95 : decode cX12_both 95 = .ok (.ifCond .eq 7, 3) := by decide +kernel
theorem dX12_both_98 : decode cX12_both 98 = .ok (.iconst 1, 1) := by decide +kernel
theorem dX12_both_99 : decode cX12_both 99 = .ok (.goto 4, 3) := by decide +kernel
theorem dX12_both_102 : decode cX12_both 102 = .ok (.iconst 0, 1) := by decide +kernel
theorem dX12_both_103 : decode cX12_both 103 = .ok (.ireturn, 1) := by decide +kernel
theorem dX12_both_104 : decode cX12_both 104 = .ok (.iload_n 1, 1) := by decide +kernel
theorem dX12_both_105 : decode cX12_both 105 = .ok (.iload_n 2, 1) := by decide +kernel
theorem dX12_both_106 : decode cX12_both 106 = .ok (.if_icmp .ge 7, 3) := by decide +kernel
theorem dX12_both_109 : decode cX12_both 109 = .ok (.iconst 1, 1) := by decide +kernel
theorem dX12_both_110 : decode cX12_both 110 = .ok (.goto 4, 3) := by decide +kernel
theorem dX12_both_113 : decode cX12_both 113 = .ok (.iconst 0, 1) := by decide +kernel
theorem dX12_both_114 : decode cX12_both 114 = .ok (.ireturn, 1) := by decide +kernel
theorem dX12_both_115 : decode cX12_both 115 = .ok (.iload_n 1, 1) := by decide +kernel
theorem dX12_both_116 : decode cX12_both 116 = .ok (.iload_n 2, 1) := by decide +kernel
theorem dX12_both_117 : decode cX12_both 117 = .ok (.if_icmp .ne 7, 3) := by decide +kernel
theorem dX12_both_120 : decode cX12_both 120 = .ok (.iconst 1, 1) := by decide +kernel
theorem dX12_both_121 : decode cX12_both 121 = .ok (.goto 4, 3) := by decide +kernel
theorem dX12_both_124 : decode cX12_both 124 = .ok (.iconst 0, 1) := by decide +kernel
theorem dX12_both_125 : decode cX12_both 125 = .ok (.ireturn, 1) := by decide +kernel
theorem dX12_both_126 : decode cX12_both 126 = .ok (.iload_n 1, 1) := by decide +kernel
theorem dX12_both_127 : decode cX12_both 127 = .ok (.iload_n 2, 1) := by decide +kernel
theorem dX12_both_128 : decode cX12_both 128 = .ok (.if_icmp .le 7, 3) := by decide +kernel
theorem dX12_both_131 : decode cX12_both 131 = .ok (.iconst 1, 1) := by decide +kernel
theorem dX12_both_132 : decode cX12_both 132 = .ok (.goto 4, 3) := by decide +kernel
theorem dX12_both_135 : decode cX12_both 135 = .ok (.iconst 0, 1) := by decide +kernel
theorem dX12_both_136 : decode cX12_both 136 = .ok (.ireturn, 1) := by decide +kernel
theorem dX12_both_137 : decode cX12_both 137 = .ok (.iload_n 1, 1) := by decide +kernel
theorem dX12_both_138 : decode cX12_both 138 = .ok (.iload_n 2, 1) := by decide +kernel
theorem dX12_both_139 : decode cX12_both 139 = .ok (.iadd, 1) := by decide +kernel
theorem dX12_both_140 : decode cX12_both 140 = .ok (.ireturn, 1) := by decide +kernel
theorem dX12_both_141 : decode cX12_both 141 = .ok (.iload_n 1, 1) := by decide +kernel
theorem dX12_both_142 : decode cX12_both 142 = .ok (.iload_n 2, 1) := by decide +kernel
theorem dX12_both_143 : decode cX12_both 143 = .ok (.isub, 1) := by decide +kernel
theorem dX12_both_144 : decode cX12_both 144 = .ok (.ireturn, 1) := by decide +kernel
theorem dX12_both_145 : decode cX12_both 145 = .ok (.iload_n 1, 1) := by decide +kernel
theorem dX12_both_146 : decode cX12_both 146 = .ok (.iload_n 2, 1) := by decide +kernel
theorem dX12_both_147 : decode cX12_both 147 = .ok (.imul, 1) := by decide +kernel
theorem dX12_both_148 : decode cX12_both 148 = .ok (.ireturn, 1) := by decide +kernel
theorem dX12_both_149 : decode cX12_both 149 = .ok (.iload_n 2, 1) := by decide +kernel
theorem dX12_both_150 : decode cX12_both 150 = .ok (.ifCond .ne 7, 3) := by decide +kernel
theorem dX12_both_153 : decode cX12_both 153 = .ok (.iconst 0, 1) := by decide +kernel
theorem dX12_both_154 : decode cX12_both 154 = .ok (.goto 6, 3) := by decide +kernel
theorem dX12_both_157 : decode cX12_both 157 = .ok (.iload_n 1, 1) := by decide +kernel
theorem dX12_both_158 : decode cX12_both 158 = .ok (.iload_n 2, 1) := by decide +kernel
theorem dX12_both_159 : decode cX12_both 159 = .ok (.idiv, 1) := by decide +kernel
theorem dX12_both_160 : decode cX12_both 160 = .ok (.ireturn, 1) := by decide +kernel
theorem dX12_worked_0 : decode cX12_worked 0 = .ok (.iconst 0, 1) := by decide +kernel
theorem dX12_worked_1 : decode cX12_worked 1 = .ok (.istore_n 2, 1) := by decide +kernel
theorem dX12_worked_2 : decode cX12_worked 2 = .ok (.iconst 0, 1) := by decide +kernel
theorem dX12_worked_3 : decode cX12_worked 3 = .ok (.istore_n 3, 1) := by decide +kernel
theorem dX12_worked_4 : decode cX12_worked 4 = .ok (.iload_n 3, 1) := by decide +kernel
theorem dX12_worked_5 : decode cX12_worked 5 = .ok (.aload_n 0, 1) := by decide +kernel
theorem dX12_worked_6 : decode cX12_worked 6 = .ok (.getfield 7, 3) := by decide +kernel
theorem dX12_worked_9 : decode cX12_worked 9 = .ok (.iload_n 1, 1) := by decide +kernel
theorem dX12_worked_10 : decode cX12_worked 10 = .ok (.iaload, 1) := by decide +kernel
theorem dX12_worked_11 : decode cX12_worked 11 = .ok (.if_icmp .ge 142, 3) := by decide +kernel
theorem dX12_worked_14 : decode cX12_worked 14 = .ok (.aload_n 0, 1) := by decide +kernel
theorem dX12_worked_15 : decode cX12_worked 15 = .ok (.getfield 7, 3) := by decide +kernel
theorem dX12_worked_18 : decode cX12_worked 18 = .ok (.iload_n 1, 1) := by decide +kernel
theorem dX12_worked_19 : decode cX12_worked 19 = .ok (.iconst 1, 1) := by decide +kernel
theorem dX12_worked_20 : decode cX12_worked 20 = .ok (.iadd, 1) := by decide +kernel
theorem dX12_worked_21 : decode cX12_worked 21 = .ok (.iconst 2, 1) := by decide +kernel
theorem dX12_worked_22 : decode cX12_worked 22 = .ok (.iload_n 3, 1) := by decide +kernel
theorem dX12_worked_23 : decode cX12_worked 23 = .ok (.imul, 1) := by decide +kernel
theorem dX12_worked_24 : decode cX12_worked 24 = .ok (.iadd, 1) := by decide +kernel
theorem dX12_worked_25 : decode cX12_worked 25 = .ok (.iaload, 1) := by decide +kernel
theorem dX12_worked_26 : decode cX12_worked 26 = .ok (.istore 4, 2) := by decide +kernel
theorem dX12_worked_28 : decode cX12_worked 28 = .ok (.aload_n 0, 1) := by decide +kernel
theorem dX12_worked_29 : decode cX12_worked 29 = .ok (.getfield 7, 3) := by decide +kernel
theorem dX12_worked_32 : decode cX12_worked 32 = .ok (.iload_n 1, 1) := by decide +kernel
theorem dX12_worked_33 : decode cX12_worked 33 = .ok (.iconst 2, 1) := by decide +kernel
theorem dX12_worked_34 : decode cX12_worked 34 = .ok (.iadd, 1) := by decide +kernel
theorem dX12_worked_35 : decode cX12_worked 35 = .ok (.iconst 2, 1) := by decide +kernel
theorem dX12_worked_36 : decode cX12_worked 36 = .ok (.iload_n 3, 1) := by decide +kernel
theorem dX12_worked_37 : decode cX12_worked 37 = .ok (.imul, 1) := by decide +kernel
theorem dX12_worked_38 : decode cX12_worked 38 = .ok (.iadd, 1) := by decide +kernel
theorem dX12_worked_39 : decode cX12_worked 39 = .ok (.iaload, 1) := by decide +kernel
theorem dX12_worked_40 : decode cX12_worked 40 = .ok (.istore 5, 2) := by decide +kernel
theorem dX12_worked_42 : decode cX12_worked 42 = .ok (.iload 4, 2) := by decide +kernel
theorem dX12_worked_44 : decode cX12_worked 44 = .ok (.iconst 1, 1) := by decide +kernel
theorem dX12_worked_45 : decode cX12_worked 45 = .ok (.if_icmp .eq 9, 3) := by decide +kernel
theorem dX12_worked_48 : decode cX12_worked 48 = .ok (.iload 4, 2) := by decide +kernel
theorem dX12_worked_50 : decode cX12_worked 50 = .ok (.iconst 2, 1) := by decide +kernel
theorem dX12_worked_51 : decode cX12_worked 51 = .ok (.if_icmp .ne 33, 3) := by decide +kernel
theorem dX12_worked_54 : decode cX12_worked 54 = .ok (.aload_n 0, 1) := by decide +kernel
theorem dX12_worked_55 : decode cX12_worked 55 = .ok (.getfield 31, 3) := by decide +kernel
theorem dX12_worked_58 : decode cX12_worked 58 = .ok (.iload_n 2, 1) := by decide +kernel
theorem dX12_worked_59 : decode cX12_worked 59 = .ok (.iload 4, 2) := by decide +kernel
theorem dX12_worked_61 : decode cX12_worked 61 = .ok (.iconst 1, 1) := by decide +kernel
theorem dX12_worked_62 : decode cX12_worked 62 = .ok (.if_icmp .ne 8, 3) := by decide +kernel
theorem dX12_worked_65 : decode cX12_worked 65 = .ok (.iload 5, 2) := by decide +kernel
theorem dX12_worked_67 : decode cX12_worked 67 = .ok (.goto 10, 3) := by decide +kernel
theorem dX12_worked_70 : decode cX12_worked 70 = .ok (.aload_n 0, 1) := by decide +kernel
theorem dX12_worked_71 : decode cX12_worked 71 = .ok (.getfield 34, 3) := by decide +kernel
theorem dX12_worked_74 : decode cX12_worked 74 = .ok (.iload 5, 2) := by decide +kernel
theorem dX12_worked_76 : decode cX12_worked 76 = .ok (.iaload, 1) := by decide +kernel
theorem dX12_worked_77 : decode cX12_worked 77 = .ok (.iastore, 1) := by decide +kernel
theorem dX12_worked_78 : decode cX12_worked 78 = .ok (.iinc 2 1, 3) := by decide +kernel
theorem dX12_worked_81 : decode cX12_worked 81 = .ok (.goto 66, 3) := by decide +kernel
theorem dX12_worked_84 : decode cX12_worked 84 = .ok (.iload 4, 2) := by decide +kernel
theorem dX12_worked_86 : decode cX12_worked 86 = .ok (.iconst 3, 1) := by decide +kernel
theorem dX12_worked_87 : decode cX12_worked 87 = .ok (.if_icmp .ne 30, 3) := by decide +kernel
theorem dX12_worked_90 : decode cX12_worked 90 = .ok (.aload_n 0, 1) := by decide +kernel
theorem dX12_worked_91 : decode cX12_worked 91 = .ok (.getfield 31, 3) := by decide +kernel
theorem dX12_worked_94 : decode cX12_worked 94 = .ok (.iload_n 2, 1) := by decide +kernel
theorem dX12_worked_95 : decode cX12_worked 95 = .ok (.iconst 1, 1) := by decide +kernel
theorem dX12_worked_96 : decode cX12_worked 96 = .ok (.isub, 1) := by decide +kernel
theorem dX12_worked_97 : decode cX12_worked 97 = .ok (.aload_n 0, 1) := by decide +kernel
theorem dX12_worked_98 : decode cX12_worked 98 = .ok (.getfield 31, 3) := by decide +kernel
theorem dX12_worked_101 : decode cX12_worked 101 = .ok (.iload_n 2, 1) := by decide +kernel
theorem dX12_worked_102 : decode cX12_worked 102 = .ok (.iconst 1, 1) := by decide +kernel
theorem dX12_worked_103 : decode cX12_worked 103 = .ok (.isub, 1) := by decide +kernel
theorem dX12_worked_104 : decode cX12_worked 104 = .ok (.iaload, 1) := by decide +kernel
theorem dX12_worked_105 : decode cX12_worked 105 = .ok (.ifCond .ne 7, 3) := by decide +kernel
theorem dX12_worked_108 : decode cX12_worked 108 = .ok (.iconst 1, 1) := by decide +kernel
theorem dX12_worked_109 : decode cX12_worked 109 = .ok (.goto 4, 3) := by decide +kernel
theorem dX12_worked_112 : decode cX12_worked 112 = .ok (.iconst 0, 1) := by decide +kernel
theorem dX12_worked_113 : decode cX12_worked 113 = .ok (.iastore, 1) := by decide +kernel
theorem dX12_worked_114 : decode cX12_worked 114 = .ok (.goto 33, 3) := by decide +kernel
theorem dX12_worked_117 : decode cX12_worked 117 = .ok (.iinc 2 (-1), 3) := by decide +kernel
theorem dX12_worked_120 : decode cX12_worked 120 = .ok (.aload_n 0, 1) := by decide +kernel
theorem dX12_worked_121 : decode cX12_worked 121 = .ok (.getfield 31, 3) := by decide +kernel
theorem dX12_worked_124 : decode cX12_worked 124 = .ok (.iload_n 2, 1) := by decide +kernel
theorem dX12_worked_125 : decode cX12_worked 125 = .ok (.iconst 1, 1) := by decide +kernel
theorem dX12_worked_126 : decode cX12_worked 126 = .ok (.isub, 1) := by decide +kernel
theorem dX12_worked_127 : decode cX12_worked 127 = .ok (.iload 4, 2) := by decide +kernel
theorem dX12_worked_129 : decode cX12_worked 129 = .ok (.aload_n 0, 1) := by decide +kernel
theorem dX12_worked_130 : decode cX12_worked 130 = .ok (.getfield 31, 3) := by decide +kernel
theorem dX12_worked_133 : decode cX12_worked 133 = .ok (.iload_n 2, 1) := by decide +kernel
theorem dX12_worked_134 : decode cX12_worked 134 = .ok (.iconst 1, 1) := by decide +kernel
theorem dX12_worked_135 : decode cX12_worked 135 = .ok (.isub, 1) := by decide +kernel
theorem dX12_worked_136 : decode cX12_worked 136 = .ok (.iaload, 1) := by decide +kernel
theorem dX12_worked_137 : decode cX12_worked 137 = .ok (.aload_n 0, 1) := by decide +kernel
theorem dX12_worked_138 : decode cX12_worked 138 = .ok (.getfield 31, 3) := by decide +kernel
theorem dX12_worked_141 : decode cX12_worked 141 = .ok (.iload_n 2, 1) := by decide +kernel
theorem dX12_worked_142 : decode cX12_worked 142 = .ok (.iaload, 1) := by decide +kernel
theorem dX12_worked_143 : decode cX12_worked 143 = .ok (.invokestatic 205, 3) := by decide +kernel
theorem dX12_worked_146 : decode cX12_worked 146 = .ok (.iastore, 1) := by decide +kernel
theorem dX12_worked_147 : decode cX12_worked 147 = .ok (.iinc 3 1, 3) := by decide +kernel
theorem dX12_worked_150 : decode cX12_worked 150 = .ok (.goto (-146), 3) := by decide +kernel
theorem dX12_worked_153 : decode cX12_worked 153 = .ok (.aload_n 0, 1) := by decide +kernel
theorem dX12_worked_154 : decode cX12_worked 154 = .ok (.getfield 31, 3) := by decide +kernel
theorem dX12_worked_157 : decode cX12_worked 157 = .ok (.iconst 0, 1) := by decide +kernel
theorem dX12_worked_158 : decode cX12_worked 158 = .ok (.iaload, 1) := by decide +kernel
theorem dX12_worked_159 : decode cX12_worked 159 = .ok (.ireturn, 1) := by decide +kernel
theorem dX12_beside_0 : decode cX12_beside 0 = .ok (.sipush 250, 3) := by decide +kernel
theorem dX12_beside_3 : decode cX12_beside 3 = .ok (.bipush 12, 2) := by decide +kernel
theorem dX12_beside_5 : decode cX12_beside 5 = .ok (.iload_n 1, 1) := by decide +kernel
theorem dX12_beside_6 : decode cX12_beside 6 = .ok (.imul, 1) := by decide +kernel
theorem dX12_beside_7 : decode cX12_beside 7 = .ok (.iadd, 1) := by decide +kernel
theorem dX12_beside_8 : decode cX12_beside 8 = .ok (.istore_n 3, 1) := by decide +kernel
theorem dX12_beside_9 : decode cX12_beside 9 = .ok (.iconst 0, 1) := by decide +kernel
theorem dX12_beside_10 : decode cX12_beside 10 = .ok (.istore 4, 2) := by decide +kernel
theorem dX12_beside_12 : decode cX12_beside 12 = .ok (.iconst 0, 1) := by decide +kernel
theorem dX12_beside_13 : decode cX12_beside 13 = .ok (.istore 5, 2) := by decide +kernel
theorem dX12_beside_15 : decode cX12_beside 15 = .ok (.iload 5, 2) := by decide +kernel
theorem dX12_beside_17 : decode cX12_beside 17 = .ok (.aload_n 0, 1) := by decide +kernel
theorem dX12_beside_18 : decode cX12_beside 18 = .ok (.getfield 7, 3) := by decide +kernel
theorem dX12_beside_21 : decode cX12_beside 21 = .ok (.bipush 7, 2) := by decide +kernel
theorem dX12_beside_23 : decode cX12_beside 23 = .ok (.iaload, 1) := by decide +kernel
theorem dX12_beside_24 : decode cX12_beside 24 = .ok (.if_icmp .ge 187, 3) := by decide +kernel
theorem dX12_beside_27 : decode cX12_beside 27 = .ok (.sipush 250, 3) := by decide +kernel
theorem dX12_beside_30 : decode cX12_beside 30 = .ok (.bipush 12, 2) := by decide +kernel
theorem dX12_beside_32 : decode cX12_beside 32 = .ok (.iload 5, 2) := by decide +kernel
theorem dX12_beside_34 : decode cX12_beside 34 = .ok (.imul, 1) := by decide +kernel
theorem dX12_beside_35 : decode cX12_beside 35 = .ok (.iadd, 1) := by decide +kernel
theorem dX12_beside_36 : decode cX12_beside 36 = .ok (.istore 6, 2) := by decide +kernel
theorem dX12_beside_38 : decode cX12_beside 38 = .ok (.aload_n 0, 1) := by decide +kernel
theorem dX12_beside_39 : decode cX12_beside 39 = .ok (.getfield 7, 3) := by decide +kernel
theorem dX12_beside_42 : decode cX12_beside 42 = .ok (.iload 6, 2) := by decide +kernel
theorem dX12_beside_44 : decode cX12_beside 44 = .ok (.iaload, 1) := by decide +kernel
theorem dX12_beside_45 : decode cX12_beside 45 = .ok (.aload_n 0, 1) := by decide +kernel
theorem dX12_beside_46 : decode cX12_beside 46 = .ok (.getfield 7, 3) := by decide +kernel
theorem dX12_beside_49 : decode cX12_beside 49 = .ok (.iload_n 3, 1) := by decide +kernel
theorem dX12_beside_50 : decode cX12_beside 50 = .ok (.iaload, 1) := by decide +kernel
theorem dX12_beside_51 : decode cX12_beside 51 = .ok (.if_icmp .eq 57, 3) := by decide +kernel
theorem dX12_beside_54 : decode cX12_beside 54 = .ok (.aload_n 0, 1) := by decide +kernel
theorem dX12_beside_55 : decode cX12_beside 55 = .ok (.getfield 7, 3) := by decide +kernel
theorem dX12_beside_58 : decode cX12_beside 58 = .ok (.iload 6, 2) := by decide +kernel
theorem dX12_beside_60 : decode cX12_beside 60 = .ok (.iconst 1, 1) := by decide +kernel
theorem dX12_beside_61 : decode cX12_beside 61 = .ok (.iadd, 1) := by decide +kernel
theorem dX12_beside_62 : decode cX12_beside 62 = .ok (.iaload, 1) := by decide +kernel
theorem dX12_beside_63 : decode cX12_beside 63 = .ok (.aload_n 0, 1) := by decide +kernel
theorem dX12_beside_64 : decode cX12_beside 64 = .ok (.getfield 7, 3) := by decide +kernel
theorem dX12_beside_67 : decode cX12_beside 67 = .ok (.iload_n 3, 1) := by decide +kernel
theorem dX12_beside_68 : decode cX12_beside 68 = .ok (.iconst 1, 1) := by decide +kernel
theorem dX12_beside_69 : decode cX12_beside 69 = .ok (.iadd, 1) := by decide +kernel
theorem dX12_beside_70 : decode cX12_beside 70 = .ok (.iaload, 1) := by decide +kernel
theorem dX12_beside_71 : decode cX12_beside 71 = .ok (.if_icmp .ne 37, 3) := by decide +kernel
theorem dX12_beside_74 : decode cX12_beside 74 = .ok (.aload_n 0, 1) := by decide +kernel
theorem dX12_beside_75 : decode cX12_beside 75 = .ok (.getfield 7, 3) := by decide +kernel
theorem dX12_beside_78 : decode cX12_beside 78 = .ok (.iload 6, 2) := by decide +kernel
theorem dX12_beside_80 : decode cX12_beside 80 = .ok (.iconst 2, 1) := by decide +kernel
theorem dX12_beside_81 : decode cX12_beside 81 = .ok (.iadd, 1) := by decide +kernel
theorem dX12_beside_82 : decode cX12_beside 82 = .ok (.iaload, 1) := by decide +kernel
theorem dX12_beside_83 : decode cX12_beside 83 = .ok (.aload_n 0, 1) := by decide +kernel
theorem dX12_beside_84 : decode cX12_beside 84 = .ok (.getfield 7, 3) := by decide +kernel
theorem dX12_beside_87 : decode cX12_beside 87 = .ok (.iload_n 3, 1) := by decide +kernel
theorem dX12_beside_88 : decode cX12_beside 88 = .ok (.iconst 2, 1) := by decide +kernel
theorem dX12_beside_89 : decode cX12_beside 89 = .ok (.iadd, 1) := by decide +kernel
theorem dX12_beside_90 : decode cX12_beside 90 = .ok (.iaload, 1) := by decide +kernel
theorem dX12_beside_91 : decode cX12_beside 91 = .ok (.if_icmp .ne 17, 3) := by decide +kernel
theorem dX12_beside_94 : decode cX12_beside 94 = .ok (.aload_n 0, 1) := by decide +kernel
theorem dX12_beside_95 : decode cX12_beside 95 = .ok (.iload 5, 2) := by decide +kernel
theorem dX12_beside_97 : decode cX12_beside 97 = .ok (.iload_n 2, 1) := by decide +kernel
theorem dX12_beside_98 : decode cX12_beside 98 = .ok (.invokevirtual 101, 3) := by decide +kernel
theorem dX12_beside_101 : decode cX12_beside 101 = .ok (.ifCond .eq 7, 3) := by decide +kernel
theorem dX12_beside_104 : decode cX12_beside 104 = .ok (.iconst 1, 1) := by decide +kernel
theorem dX12_beside_105 : decode cX12_beside 105 = .ok (.goto 4, 3) := by decide +kernel
theorem dX12_beside_108 : decode cX12_beside 108 = .ok (.iconst 0, 1) := by decide +kernel
theorem dX12_beside_109 : decode cX12_beside 109 = .ok (.istore 7, 2) := by decide +kernel
theorem dX12_beside_111 : decode cX12_beside 111 = .ok (.aload_n 0, 1) := by decide +kernel
theorem dX12_beside_112 : decode cX12_beside 112 = .ok (.getfield 7, 3) := by decide +kernel
theorem dX12_beside_115 : decode cX12_beside 115 = .ok (.iload 6, 2) := by decide +kernel
theorem dX12_beside_117 : decode cX12_beside 117 = .ok (.iconst 3, 1) := by decide +kernel
theorem dX12_beside_118 : decode cX12_beside 118 = .ok (.iadd, 1) := by decide +kernel
theorem dX12_beside_119 : decode cX12_beside 119 = .ok (.iaload, 1) := by decide +kernel
theorem dX12_beside_120 : decode cX12_beside 120 = .ok (.aload_n 0, 1) := by decide +kernel
theorem dX12_beside_121 : decode cX12_beside 121 = .ok (.getfield 7, 3) := by decide +kernel
theorem dX12_beside_124 : decode cX12_beside 124 = .ok (.iload_n 3, 1) := by decide +kernel
theorem dX12_beside_125 : decode cX12_beside 125 = .ok (.iconst 3, 1) := by decide +kernel
theorem dX12_beside_126 : decode cX12_beside 126 = .ok (.iadd, 1) := by decide +kernel
theorem dX12_beside_127 : decode cX12_beside 127 = .ok (.iaload, 1) := by decide +kernel
theorem dX12_beside_128 : decode cX12_beside 128 = .ok (.aload_n 0, 1) := by decide +kernel
theorem dX12_beside_129 : decode cX12_beside 129 = .ok (.getfield 7, 3) := by decide +kernel
theorem dX12_beside_132 : decode cX12_beside 132 = .ok (.iload_n 3, 1) := by decide +kernel
theorem dX12_beside_133 : decode cX12_beside 133 = .ok (.iconst 4, 1) := by decide +kernel
theorem dX12_beside_134 : decode cX12_beside 134 = .ok (.iadd, 1) := by decide +kernel
theorem dX12_beside_135 : decode cX12_beside 135 = .ok (.iaload, 1) := by decide +kernel
theorem dX12_beside_136 : decode cX12_beside 136 = .ok (.iadd, 1) := by decide +kernel
theorem dX12_beside_137 : decode cX12_beside 137 = .ok (.if_icmp .ge 37, 3) := by decide +kernel
theorem dX12_beside_140 : decode cX12_beside 140 = .ok (.aload_n 0, 1) := by decide +kernel
theorem dX12_beside_141 : decode cX12_beside 141 = .ok (.getfield 7, 3) := by decide +kernel
theorem dX12_beside_144 : decode cX12_beside 144 = .ok (.iload_n 3, 1) := by decide +kernel
theorem dX12_beside_145 : decode cX12_beside 145 = .ok (.iconst 3, 1) := by decide +kernel
theorem dX12_beside_146 : decode cX12_beside 146 = .ok (.iadd, 1) := by decide +kernel
theorem dX12_beside_147 : decode cX12_beside 147 = .ok (.iaload, 1) := by decide +kernel
theorem dX12_beside_148 : decode cX12_beside 148 = .ok (.aload_n 0, 1) := by decide +kernel
theorem dX12_beside_149 : decode cX12_beside 149 = .ok (.getfield 7, 3) := by decide +kernel
theorem dX12_beside_152 : decode cX12_beside 152 = .ok (.iload 6, 2) := by decide +kernel
theorem dX12_beside_154 : decode cX12_beside 154 = .ok (.iconst 3, 1) := by decide +kernel
theorem dX12_beside_155 : decode cX12_beside 155 = .ok (.iadd, 1) := by decide +kernel
theorem dX12_beside_156 : decode cX12_beside 156 = .ok (.iaload, 1) := by decide +kernel
theorem dX12_beside_157 : decode cX12_beside 157 = .ok (.aload_n 0, 1) := by decide +kernel
theorem dX12_beside_158 : decode cX12_beside 158 = .ok (.getfield 7, 3) := by decide +kernel
theorem dX12_beside_161 : decode cX12_beside 161 = .ok (.iload 6, 2) := by decide +kernel
theorem dX12_beside_163 : decode cX12_beside 163 = .ok (.iconst 4, 1) := by decide +kernel
theorem dX12_beside_164 : decode cX12_beside 164 = .ok (.iadd, 1) := by decide +kernel
theorem dX12_beside_165 : decode cX12_beside 165 = .ok (.iaload, 1) := by decide +kernel
theorem dX12_beside_166 : decode cX12_beside 166 = .ok (.iadd, 1) := by decide +kernel
theorem dX12_beside_167 : decode cX12_beside 167 = .ok (.if_icmp .ge 7, 3) := by decide +kernel
theorem dX12_beside_170 : decode cX12_beside 170 = .ok (.iconst 1, 1) := by decide +kernel
theorem dX12_beside_171 : decode cX12_beside 171 = .ok (.goto 4, 3) := by decide +kernel
theorem dX12_beside_174 : decode cX12_beside 174 = .ok (.iconst 0, 1) := by decide +kernel
theorem dX12_beside_175 : decode cX12_beside 175 = .ok (.istore 8, 2) := by decide +kernel
theorem dX12_beside_177 : decode cX12_beside 177 = .ok (.iload 4, 2) := by decide +kernel
theorem dX12_beside_179 : decode cX12_beside 179 = .ok (.iload 7, 2) := by decide +kernel
theorem dX12_beside_181 : decode cX12_beside 181 = .ok (.ifCond .eq 20, 3) := by decide +kernel
theorem dX12_beside_184 : decode cX12_beside 184 = .ok (.iload 8, 2) := by decide +kernel
theorem dX12_beside_186 : decode cX12_beside 186 = .ok (.ifCond .eq 15, 3) := by decide +kernel
theorem dX12_beside_189 : decode cX12_beside 189 = .ok (.iconst 1, 1) := by decide +kernel
theorem dX12_beside_190 : decode cX12_beside 190 = .ok (.aload_n 0, 1) := by decide +kernel
theorem dX12_beside_191 : decode cX12_beside 191 = .ok (.getfield 7, 3) := by decide +kernel
theorem dX12_beside_194 : decode cX12_beside 194 = .ok (.iload 6, 2) := by decide +kernel
theorem dX12_beside_196 : decode cX12_beside 196 = .ok (.iaload, 1) := by decide +kernel
theorem dX12_beside_197 : decode cX12_beside 197 = .ok (.ishl, 1) := by decide +kernel
theorem dX12_beside_198 : decode cX12_beside 198 = .ok (.goto 4, 3) := by decide +kernel
theorem dX12_beside_201 : decode cX12_beside 201 = .ok (.iconst 0, 1) := by decide +kernel
theorem dX12_beside_202 : decode cX12_beside 202 = .ok (.ior, 1) := by decide +kernel
theorem dX12_beside_203 : decode cX12_beside 203 = .ok (.istore 4, 2) := by decide +kernel
theorem dX12_beside_205 : decode cX12_beside 205 = .ok (.iinc 5 1, 3) := by decide +kernel
theorem dX12_beside_208 : decode cX12_beside 208 = .ok (.goto (-193), 3) := by decide +kernel
theorem dX12_beside_211 : decode cX12_beside 211 = .ok (.iconst 0, 1) := by decide +kernel
theorem dX12_beside_212 : decode cX12_beside 212 = .ok (.istore 5, 2) := by decide +kernel
theorem dX12_beside_214 : decode cX12_beside 214 = .ok (.iconst 0, 1) := by decide +kernel
theorem dX12_beside_215 : decode cX12_beside 215 = .ok (.istore 6, 2) := by decide +kernel
theorem dX12_beside_217 : decode cX12_beside 217 = .ok (.iload 6, 2) := by decide +kernel
theorem dX12_beside_219 : decode cX12_beside 219 = .ok (.bipush 8, 2) := by decide +kernel
theorem dX12_beside_221 : decode cX12_beside 221 = .ok (.if_icmp .ge 21, 3) := by decide +kernel
theorem dX12_beside_224 : decode cX12_beside 224 = .ok (.iload 5, 2) := by decide +kernel
theorem dX12_beside_226 : decode cX12_beside 226 = .ok (.iload 4, 2) := by decide +kernel
theorem dX12_beside_228 : decode cX12_beside 228 = .ok (.iload 6, 2) := by decide +kernel
theorem dX12_beside_230 : decode cX12_beside 230 = .ok (.ishr, 1) := by decide +kernel
theorem dX12_beside_231 : decode cX12_beside 231 = .ok (.iconst 1, 1) := by decide +kernel
theorem dX12_beside_232 : decode cX12_beside 232 = .ok (.iand, 1) := by decide +kernel
theorem dX12_beside_233 : decode cX12_beside 233 = .ok (.iadd, 1) := by decide +kernel
theorem dX12_beside_234 : decode cX12_beside 234 = .ok (.istore 5, 2) := by decide +kernel
theorem dX12_beside_236 : decode cX12_beside 236 = .ok (.iinc 6 1, 3) := by decide +kernel
theorem dX12_beside_239 : decode cX12_beside 239 = .ok (.goto (-22), 3) := by decide +kernel
theorem dX12_beside_242 : decode cX12_beside 242 = .ok (.iload 5, 2) := by decide +kernel
theorem dX12_beside_244 : decode cX12_beside 244 = .ok (.ireturn, 1) := by decide +kernel
theorem dX12_termOf_0 : decode cX12_termOf 0 = .ok (.aload_n 0, 1) := by decide +kernel
theorem dX12_termOf_1 : decode cX12_termOf 1 = .ok (.getfield 7, 3) := by decide +kernel
theorem dX12_termOf_4 : decode cX12_termOf 4 = .ok (.bipush 50, 2) := by decide +kernel
theorem dX12_termOf_6 : decode cX12_termOf 6 = .ok (.bipush 20, 2) := by decide +kernel
theorem dX12_termOf_8 : decode cX12_termOf 8 = .ok (.aload_n 0, 1) := by decide +kernel
theorem dX12_termOf_9 : decode cX12_termOf 9 = .ok (.getfield 7, 3) := by decide +kernel
theorem dX12_termOf_12 : decode cX12_termOf 12 = .ok (.sipush 250, 3) := by decide +kernel
theorem dX12_termOf_15 : decode cX12_termOf 15 = .ok (.bipush 12, 2) := by decide +kernel
theorem dX12_termOf_17 : decode cX12_termOf 17 = .ok (.iload_n 1, 1) := by decide +kernel
theorem dX12_termOf_18 : decode cX12_termOf 18 = .ok (.imul, 1) := by decide +kernel
theorem dX12_termOf_19 : decode cX12_termOf 19 = .ok (.iadd, 1) := by decide +kernel
theorem dX12_termOf_20 : decode cX12_termOf 20 = .ok (.iconst 1, 1) := by decide +kernel
theorem dX12_termOf_21 : decode cX12_termOf 21 = .ok (.iadd, 1) := by decide +kernel
theorem dX12_termOf_22 : decode cX12_termOf 22 = .ok (.iaload, 1) := by decide +kernel
theorem dX12_termOf_23 : decode cX12_termOf 23 = .ok (.imul, 1) := by decide +kernel
theorem dX12_termOf_24 : decode cX12_termOf 24 = .ok (.iadd, 1) := by decide +kernel
theorem dX12_termOf_25 : decode cX12_termOf 25 = .ok (.iconst 1, 1) := by decide +kernel
theorem dX12_termOf_26 : decode cX12_termOf 26 = .ok (.iadd, 1) := by decide +kernel
theorem dX12_termOf_27 : decode cX12_termOf 27 = .ok (.iaload, 1) := by decide +kernel
theorem dX12_termOf_28 : decode cX12_termOf 28 = .ok (.istore_n 2, 1) := by decide +kernel
theorem dX12_termOf_29 : decode cX12_termOf 29 = .ok (.iconst (-1), 1) := by decide +kernel
theorem dX12_termOf_30 : decode cX12_termOf 30 = .ok (.istore_n 3, 1) := by decide +kernel
theorem dX12_termOf_31 : decode cX12_termOf 31 = .ok (.iconst 0, 1) := by decide +kernel
theorem dX12_termOf_32 : decode cX12_termOf 32 = .ok (.istore 4, 2) := by decide +kernel
theorem dX12_termOf_34 : decode cX12_termOf 34 = .ok (.iload 4, 2) := by decide +kernel
theorem dX12_termOf_36 : decode cX12_termOf 36 = .ok (.aload_n 0, 1) := by decide +kernel
theorem dX12_termOf_37 : decode cX12_termOf 37 = .ok (.getfield 7, 3) := by decide +kernel
theorem dX12_termOf_40 : decode cX12_termOf 40 = .ok (.bipush 9, 2) := by decide +kernel
theorem dX12_termOf_42 : decode cX12_termOf 42 = .ok (.iaload, 1) := by decide +kernel
theorem dX12_termOf_43 : decode cX12_termOf 43 = .ok (.if_icmp .ge 95, 3) := by decide +kernel
theorem dX12_termOf_46 : decode cX12_termOf 46 = .ok (.sipush 1840, 3) := by decide +kernel
theorem dX12_termOf_49 : decode cX12_termOf 49 = .ok (.sipush 484, 3) := by decide +kernel
theorem dX12_termOf_52 : decode cX12_termOf 52 = .ok (.iload 4, 2) := by decide +kernel
theorem dX12_termOf_54 : decode cX12_termOf 54 = .ok (.imul, 1) := by decide +kernel
theorem dX12_termOf_55 : decode cX12_termOf 55 = .ok (.iadd, 1) := by decide +kernel
theorem dX12_termOf_56 : decode cX12_termOf 56 = .ok (.istore 5, 2) := by decide +kernel
theorem dX12_termOf_58 : decode cX12_termOf 58 = .ok (.aload_n 0, 1) := by decide +kernel
theorem dX12_termOf_59 : decode cX12_termOf 59 = .ok (.getfield 7, 3) := by decide +kernel
theorem dX12_termOf_62 : decode cX12_termOf 62 = .ok (.iload 5, 2) := by decide +kernel
theorem dX12_termOf_64 : decode cX12_termOf 64 = .ok (.iaload, 1) := by decide +kernel
theorem dX12_termOf_65 : decode cX12_termOf 65 = .ok (.iload_n 2, 1) := by decide +kernel
theorem dX12_termOf_66 : decode cX12_termOf 66 = .ok (.if_icmp .ne 66, 3) := by decide +kernel
theorem dX12_termOf_69 : decode cX12_termOf 69 = .ok (.aload_n 0, 1) := by decide +kernel
theorem dX12_termOf_70 : decode cX12_termOf 70 = .ok (.getfield 7, 3) := by decide +kernel
theorem dX12_termOf_73 : decode cX12_termOf 73 = .ok (.iload 5, 2) := by decide +kernel
theorem dX12_termOf_75 : decode cX12_termOf 75 = .ok (.iconst 1, 1) := by decide +kernel
theorem dX12_termOf_76 : decode cX12_termOf 76 = .ok (.iadd, 1) := by decide +kernel
theorem dX12_termOf_77 : decode cX12_termOf 77 = .ok (.iaload, 1) := by decide +kernel
theorem dX12_termOf_78 : decode cX12_termOf 78 = .ok (.aload_n 0, 1) := by decide +kernel
theorem dX12_termOf_79 : decode cX12_termOf 79 = .ok (.getfield 7, 3) := by decide +kernel
theorem dX12_termOf_82 : decode cX12_termOf 82 = .ok (.sipush 250, 3) := by decide +kernel
theorem dX12_termOf_85 : decode cX12_termOf 85 = .ok (.bipush 12, 2) := by decide +kernel
theorem dX12_termOf_87 : decode cX12_termOf 87 = .ok (.iload_n 1, 1) := by decide +kernel
theorem dX12_termOf_88 : decode cX12_termOf 88 = .ok (.imul, 1) := by decide +kernel
theorem dX12_termOf_89 : decode cX12_termOf 89 = .ok (.iadd, 1) := by decide +kernel
theorem dX12_termOf_90 : decode cX12_termOf 90 = .ok (.iconst 2, 1) := by decide +kernel
theorem dX12_termOf_91 : decode cX12_termOf 91 = .ok (.iadd, 1) := by decide +kernel
theorem dX12_termOf_92 : decode cX12_termOf 92 = .ok (.iaload, 1) := by decide +kernel
theorem dX12_termOf_93 : decode cX12_termOf 93 = .ok (.if_icmp .gt 39, 3) := by decide +kernel
theorem dX12_termOf_96 : decode cX12_termOf 96 = .ok (.iload_n 3, 1) := by decide +kernel
theorem dX12_termOf_97 : decode cX12_termOf 97 = .ok (.iconst (-1), 1) := by decide +kernel
theorem dX12_termOf_98 : decode cX12_termOf 98 = .ok (.if_icmp .eq 31, 3) := by decide +kernel
theorem dX12_termOf_101 : decode cX12_termOf 101 = .ok (.aload_n 0, 1) := by decide +kernel
theorem dX12_termOf_102 : decode cX12_termOf 102 = .ok (.getfield 7, 3) := by decide +kernel
theorem dX12_termOf_105 : decode cX12_termOf 105 = .ok (.iload 5, 2) := by decide +kernel
theorem dX12_termOf_107 : decode cX12_termOf 107 = .ok (.iconst 1, 1) := by decide +kernel
theorem dX12_termOf_108 : decode cX12_termOf 108 = .ok (.iadd, 1) := by decide +kernel
theorem dX12_termOf_109 : decode cX12_termOf 109 = .ok (.iaload, 1) := by decide +kernel
theorem dX12_termOf_110 : decode cX12_termOf 110 = .ok (.aload_n 0, 1) := by decide +kernel
theorem dX12_termOf_111 : decode cX12_termOf 111 = .ok (.getfield 7, 3) := by decide +kernel
theorem dX12_termOf_114 : decode cX12_termOf 114 = .ok (.sipush 1840, 3) := by decide +kernel
theorem dX12_termOf_117 : decode cX12_termOf 117 = .ok (.sipush 484, 3) := by decide +kernel
theorem dX12_termOf_120 : decode cX12_termOf 120 = .ok (.iload_n 3, 1) := by decide +kernel
theorem dX12_termOf_121 : decode cX12_termOf 121 = .ok (.imul, 1) := by decide +kernel
theorem dX12_termOf_122 : decode cX12_termOf 122 = .ok (.iadd, 1) := by decide +kernel
theorem dX12_termOf_123 : decode cX12_termOf 123 = .ok (.iconst 1, 1) := by decide +kernel
theorem dX12_termOf_124 : decode cX12_termOf 124 = .ok (.iadd, 1) := by decide +kernel
theorem dX12_termOf_125 : decode cX12_termOf 125 = .ok (.iaload, 1) := by decide +kernel
theorem dX12_termOf_126 : decode cX12_termOf 126 = .ok (.if_icmp .lt 6, 3) := by decide +kernel
theorem dX12_termOf_129 : decode cX12_termOf 129 = .ok (.iload 4, 2) := by decide +kernel
theorem dX12_termOf_131 : decode cX12_termOf 131 = .ok (.istore_n 3, 1) := by decide +kernel
theorem dX12_termOf_132 : decode cX12_termOf 132 = .ok (.iinc 4 1, 3) := by decide +kernel
theorem dX12_termOf_135 : decode cX12_termOf 135 = .ok (.goto (-101), 3) := by decide +kernel
theorem dX12_termOf_138 : decode cX12_termOf 138 = .ok (.iload_n 3, 1) := by decide +kernel
theorem dX12_termOf_139 : decode cX12_termOf 139 = .ok (.ireturn, 1) := by decide +kernel
theorem dX12_gives_0 : decode cX12_gives 0 = .ok (.sipush 250, 3) := by decide +kernel
theorem dX12_gives_3 : decode cX12_gives 3 = .ok (.bipush 12, 2) := by decide +kernel
theorem dX12_gives_5 : decode cX12_gives 5 = .ok (.iload_n 1, 1) := by decide +kernel
theorem dX12_gives_6 : decode cX12_gives 6 = .ok (.imul, 1) := by decide +kernel
theorem dX12_gives_7 : decode cX12_gives 7 = .ok (.iadd, 1) := by decide +kernel
theorem dX12_gives_8 : decode cX12_gives 8 = .ok (.istore 4, 2) := by decide +kernel
theorem dX12_gives_10 : decode cX12_gives 10 = .ok (.aload_n 0, 1) := by decide +kernel
theorem dX12_gives_11 : decode cX12_gives 11 = .ok (.iload_n 1, 1) := by decide +kernel
theorem dX12_gives_12 : decode cX12_gives 12 = .ok (.invokevirtual 209, 3) := by decide +kernel
theorem dX12_gives_15 : decode cX12_gives 15 = .ok (.istore 5, 2) := by decide +kernel
theorem dX12_gives_17 : decode cX12_gives 17 = .ok (.iload 5, 2) := by decide +kernel
theorem dX12_gives_19 : decode cX12_gives 19 = .ok (.iconst (-1), 1) := by decide +kernel
theorem dX12_gives_20 : decode cX12_gives 20 = .ok (.if_icmp .ne 39, 3) := by decide +kernel
theorem dX12_gives_23 : decode cX12_gives 23 = .ok (.iload_n 3, 1) := by decide +kernel
theorem dX12_gives_24 : decode cX12_gives 24 = .ok (.ifCond .ne 15, 3) := by decide +kernel
theorem dX12_gives_27 : decode cX12_gives 27 = .ok (.aload_n 0, 1) := by decide +kernel
theorem dX12_gives_28 : decode cX12_gives 28 = .ok (.getfield 7, 3) := by decide +kernel
theorem dX12_gives_31 : decode cX12_gives 31 = .ok (.iload 4, 2) := by decide +kernel
theorem dX12_gives_33 : decode cX12_gives 33 = .ok (.iconst 4, 1) := by decide +kernel
theorem dX12_gives_34 : decode cX12_gives 34 = .ok (.iadd, 1) := by decide +kernel
theorem dX12_gives_35 : decode cX12_gives 35 = .ok (.iaload, 1) := by decide +kernel
theorem dX12_gives_36 : decode cX12_gives 36 = .ok (.goto 22, 3) := by decide +kernel
theorem dX12_gives_39 : decode cX12_gives 39 = .ok (.aload_n 0, 1) := by decide +kernel
theorem dX12_gives_40 : decode cX12_gives 40 = .ok (.getfield 7, 3) := by decide +kernel
theorem dX12_gives_43 : decode cX12_gives 43 = .ok (.bipush 20, 2) := by decide +kernel
theorem dX12_gives_45 : decode cX12_gives 45 = .ok (.iconst 3, 1) := by decide +kernel
theorem dX12_gives_46 : decode cX12_gives 46 = .ok (.aload_n 0, 1) := by decide +kernel
theorem dX12_gives_47 : decode cX12_gives 47 = .ok (.getfield 7, 3) := by decide +kernel
theorem dX12_gives_50 : decode cX12_gives 50 = .ok (.iload 4, 2) := by decide +kernel
theorem dX12_gives_52 : decode cX12_gives 52 = .ok (.iaload, 1) := by decide +kernel
theorem dX12_gives_53 : decode cX12_gives 53 = .ok (.imul, 1) := by decide +kernel
theorem dX12_gives_54 : decode cX12_gives 54 = .ok (.iadd, 1) := by decide +kernel
theorem dX12_gives_55 : decode cX12_gives 55 = .ok (.iconst 1, 1) := by decide +kernel
theorem dX12_gives_56 : decode cX12_gives 56 = .ok (.iadd, 1) := by decide +kernel
theorem dX12_gives_57 : decode cX12_gives 57 = .ok (.iaload, 1) := by decide +kernel
theorem dX12_gives_58 : decode cX12_gives 58 = .ok (.ireturn, 1) := by decide +kernel
theorem dX12_gives_59 : decode cX12_gives 59 = .ok (.aload_n 0, 1) := by decide +kernel
theorem dX12_gives_60 : decode cX12_gives 60 = .ok (.getfield 34, 3) := by decide +kernel
theorem dX12_gives_63 : decode cX12_gives 63 = .ok (.bipush 110, 2) := by decide +kernel
theorem dX12_gives_65 : decode cX12_gives 65 = .ok (.aload_n 0, 1) := by decide +kernel
theorem dX12_gives_66 : decode cX12_gives 66 = .ok (.getfield 7, 3) := by decide +kernel
theorem dX12_gives_69 : decode cX12_gives 69 = .ok (.iload 4, 2) := by decide +kernel
theorem dX12_gives_71 : decode cX12_gives 71 = .ok (.iconst 4, 1) := by decide +kernel
theorem dX12_gives_72 : decode cX12_gives 72 = .ok (.iadd, 1) := by decide +kernel
theorem dX12_gives_73 : decode cX12_gives 73 = .ok (.iaload, 1) := by decide +kernel
theorem dX12_gives_74 : decode cX12_gives 74 = .ok (.iastore, 1) := by decide +kernel
theorem dX12_gives_75 : decode cX12_gives 75 = .ok (.aload_n 0, 1) := by decide +kernel
theorem dX12_gives_76 : decode cX12_gives 76 = .ok (.getfield 34, 3) := by decide +kernel
theorem dX12_gives_79 : decode cX12_gives 79 = .ok (.bipush 114, 2) := by decide +kernel
theorem dX12_gives_81 : decode cX12_gives 81 = .ok (.aload_n 0, 1) := by decide +kernel
theorem dX12_gives_82 : decode cX12_gives 82 = .ok (.getfield 7, 3) := by decide +kernel
theorem dX12_gives_85 : decode cX12_gives 85 = .ok (.bipush 20, 2) := by decide +kernel
theorem dX12_gives_87 : decode cX12_gives 87 = .ok (.iconst 3, 1) := by decide +kernel
theorem dX12_gives_88 : decode cX12_gives 88 = .ok (.aload_n 0, 1) := by decide +kernel
theorem dX12_gives_89 : decode cX12_gives 89 = .ok (.getfield 7, 3) := by decide +kernel
theorem dX12_gives_92 : decode cX12_gives 92 = .ok (.iload 4, 2) := by decide +kernel
theorem dX12_gives_94 : decode cX12_gives 94 = .ok (.iaload, 1) := by decide +kernel
theorem dX12_gives_95 : decode cX12_gives 95 = .ok (.imul, 1) := by decide +kernel
theorem dX12_gives_96 : decode cX12_gives 96 = .ok (.iadd, 1) := by decide +kernel
theorem dX12_gives_97 : decode cX12_gives 97 = .ok (.iconst 1, 1) := by decide +kernel
theorem dX12_gives_98 : decode cX12_gives 98 = .ok (.iadd, 1) := by decide +kernel
theorem dX12_gives_99 : decode cX12_gives 99 = .ok (.iaload, 1) := by decide +kernel
theorem dX12_gives_100 : decode cX12_gives 100 = .ok (.iastore, 1) := by decide +kernel
theorem dX12_gives_101 : decode cX12_gives 101 = .ok (.aload_n 0, 1) := by decide +kernel
theorem dX12_gives_102 : decode cX12_gives 102 = .ok (.getfield 34, 3) := by decide +kernel
theorem dX12_gives_105 : decode cX12_gives 105 = .ok (.bipush 107, 2) := by decide +kernel
theorem dX12_gives_107 : decode cX12_gives 107 = .ok (.aload_n 0, 1) := by decide +kernel
theorem dX12_gives_108 : decode cX12_gives 108 = .ok (.getfield 7, 3) := by decide +kernel
theorem dX12_gives_111 : decode cX12_gives 111 = .ok (.bipush 20, 2) := by decide +kernel
theorem dX12_gives_113 : decode cX12_gives 113 = .ok (.iconst 3, 1) := by decide +kernel
theorem dX12_gives_114 : decode cX12_gives 114 = .ok (.aload_n 0, 1) := by decide +kernel
theorem dX12_gives_115 : decode cX12_gives 115 = .ok (.getfield 7, 3) := by decide +kernel
theorem dX12_gives_118 : decode cX12_gives 118 = .ok (.iload 4, 2) := by decide +kernel
theorem dX12_gives_120 : decode cX12_gives 120 = .ok (.iaload, 1) := by decide +kernel
theorem dX12_gives_121 : decode cX12_gives 121 = .ok (.imul, 1) := by decide +kernel
theorem dX12_gives_122 : decode cX12_gives 122 = .ok (.iadd, 1) := by decide +kernel
theorem dX12_gives_123 : decode cX12_gives 123 = .ok (.iaload, 1) := by decide +kernel
theorem dX12_gives_124 : decode cX12_gives 124 = .ok (.iastore, 1) := by decide +kernel
theorem dX12_gives_125 : decode cX12_gives 125 = .ok (.aload_n 0, 1) := by decide +kernel
theorem dX12_gives_126 : decode cX12_gives 126 = .ok (.getfield 34, 3) := by decide +kernel
theorem dX12_gives_129 : decode cX12_gives 129 = .ok (.bipush 99, 2) := by decide +kernel
theorem dX12_gives_131 : decode cX12_gives 131 = .ok (.aload_n 0, 1) := by decide +kernel
theorem dX12_gives_132 : decode cX12_gives 132 = .ok (.getfield 7, 3) := by decide +kernel
theorem dX12_gives_135 : decode cX12_gives 135 = .ok (.iload 4, 2) := by decide +kernel
theorem dX12_gives_137 : decode cX12_gives 137 = .ok (.iconst 5, 1) := by decide +kernel
theorem dX12_gives_138 : decode cX12_gives 138 = .ok (.iadd, 1) := by decide +kernel
theorem dX12_gives_139 : decode cX12_gives 139 = .ok (.iaload, 1) := by decide +kernel
theorem dX12_gives_140 : decode cX12_gives 140 = .ok (.iastore, 1) := by decide +kernel
theorem dX12_gives_141 : decode cX12_gives 141 = .ok (.aload_n 0, 1) := by decide +kernel
theorem dX12_gives_142 : decode cX12_gives 142 = .ok (.getfield 34, 3) := by decide +kernel
theorem dX12_gives_145 : decode cX12_gives 145 = .ok (.bipush 103, 2) := by decide +kernel
theorem dX12_gives_147 : decode cX12_gives 147 = .ok (.aload_n 0, 1) := by decide +kernel
theorem dX12_gives_148 : decode cX12_gives 148 = .ok (.getfield 7, 3) := by decide +kernel
theorem dX12_gives_151 : decode cX12_gives 151 = .ok (.bipush 50, 2) := by decide +kernel
theorem dX12_gives_153 : decode cX12_gives 153 = .ok (.bipush 20, 2) := by decide +kernel
theorem dX12_gives_155 : decode cX12_gives 155 = .ok (.aload_n 0, 1) := by decide +kernel
theorem dX12_gives_156 : decode cX12_gives 156 = .ok (.getfield 7, 3) := by decide +kernel
theorem dX12_gives_159 : decode cX12_gives 159 = .ok (.iload 4, 2) := by decide +kernel
theorem dX12_gives_161 : decode cX12_gives 161 = .ok (.iconst 1, 1) := by decide +kernel
theorem dX12_gives_162 : decode cX12_gives 162 = .ok (.iadd, 1) := by decide +kernel
theorem dX12_gives_163 : decode cX12_gives 163 = .ok (.iaload, 1) := by decide +kernel
theorem dX12_gives_164 : decode cX12_gives 164 = .ok (.imul, 1) := by decide +kernel
theorem dX12_gives_165 : decode cX12_gives 165 = .ok (.iadd, 1) := by decide +kernel
theorem dX12_gives_166 : decode cX12_gives 166 = .ok (.iaload, 1) := by decide +kernel
theorem dX12_gives_167 : decode cX12_gives 167 = .ok (.iastore, 1) := by decide +kernel
theorem dX12_gives_168 : decode cX12_gives 168 = .ok (.aload_n 0, 1) := by decide +kernel
theorem dX12_gives_169 : decode cX12_gives 169 = .ok (.getfield 34, 3) := by decide +kernel
theorem dX12_gives_172 : decode cX12_gives 172 = .ok (.bipush 119, 2) := by decide +kernel
theorem dX12_gives_174 : decode cX12_gives 174 = .ok (.aload_n 0, 1) := by decide +kernel
theorem dX12_gives_175 : decode cX12_gives 175 = .ok (.getfield 7, 3) := by decide +kernel
theorem dX12_gives_178 : decode cX12_gives 178 = .ok (.iload 4, 2) := by decide +kernel
theorem dX12_gives_180 : decode cX12_gives 180 = .ok (.iconst 2, 1) := by decide +kernel
theorem dX12_gives_181 : decode cX12_gives 181 = .ok (.iadd, 1) := by decide +kernel
theorem dX12_gives_182 : decode cX12_gives 182 = .ok (.iaload, 1) := by decide +kernel
theorem dX12_gives_183 : decode cX12_gives 183 = .ok (.bipush 7, 2) := by decide +kernel
theorem dX12_gives_185 : decode cX12_gives 185 = .ok (.irem, 1) := by decide +kernel
theorem dX12_gives_186 : decode cX12_gives 186 = .ok (.iastore, 1) := by decide +kernel
theorem dX12_gives_187 : decode cX12_gives 187 = .ok (.aload_n 0, 1) := by decide +kernel
theorem dX12_gives_188 : decode cX12_gives 188 = .ok (.getfield 34, 3) := by decide +kernel
theorem dX12_gives_191 : decode cX12_gives 191 = .ok (.bipush 109, 2) := by decide +kernel
theorem dX12_gives_193 : decode cX12_gives 193 = .ok (.aload_n 0, 1) := by decide +kernel
theorem dX12_gives_194 : decode cX12_gives 194 = .ok (.iload_n 1, 1) := by decide +kernel
theorem dX12_gives_195 : decode cX12_gives 195 = .ok (.iload_n 2, 1) := by decide +kernel
theorem dX12_gives_196 : decode cX12_gives 196 = .ok (.invokevirtual 212, 3) := by decide +kernel
theorem dX12_gives_199 : decode cX12_gives 199 = .ok (.iastore, 1) := by decide +kernel
theorem dX12_gives_200 : decode cX12_gives 200 = .ok (.aload_n 0, 1) := by decide +kernel
theorem dX12_gives_201 : decode cX12_gives 201 = .ok (.sipush 1840, 3) := by decide +kernel
theorem dX12_gives_204 : decode cX12_gives 204 = .ok (.sipush 484, 3) := by decide +kernel
theorem dX12_gives_207 : decode cX12_gives 207 = .ok (.iload 5, 2) := by decide +kernel
theorem dX12_gives_209 : decode cX12_gives 209 = .ok (.imul, 1) := by decide +kernel
theorem dX12_gives_210 : decode cX12_gives 210 = .ok (.iadd, 1) := by decide +kernel
theorem dX12_gives_211 : decode cX12_gives 211 = .ok (.iconst 2, 1) := by decide +kernel
theorem dX12_gives_212 : decode cX12_gives 212 = .ok (.iadd, 1) := by decide +kernel
theorem dX12_gives_213 : decode cX12_gives 213 = .ok (.sipush 241, 3) := by decide +kernel
theorem dX12_gives_216 : decode cX12_gives 216 = .ok (.iload_n 3, 1) := by decide +kernel
theorem dX12_gives_217 : decode cX12_gives 217 = .ok (.imul, 1) := by decide +kernel
theorem dX12_gives_218 : decode cX12_gives 218 = .ok (.iadd, 1) := by decide +kernel
theorem dX12_gives_219 : decode cX12_gives 219 = .ok (.invokevirtual 215, 3) := by decide +kernel
theorem dX12_gives_222 : decode cX12_gives 222 = .ok (.iconst 0, 1) := by decide +kernel
theorem dX12_gives_223 : decode cX12_gives 223 = .ok (.invokestatic 105, 3) := by decide +kernel
theorem dX12_gives_226 : decode cX12_gives 226 = .ok (.iload_n 3, 1) := by decide +kernel
theorem dX12_gives_227 : decode cX12_gives 227 = .ok (.ifCond .ne 9, 3) := by decide +kernel
theorem dX12_gives_230 : decode cX12_gives 230 = .ok (.sipush 240, 3) := by decide +kernel
theorem dX12_gives_233 : decode cX12_gives 233 = .ok (.goto 6, 3) := by decide +kernel
theorem dX12_gives_236 : decode cX12_gives 236 = .ok (.sipush 9999, 3) := by decide +kernel
theorem dX12_gives_239 : decode cX12_gives 239 = .ok (.invokestatic 218, 3) := by decide +kernel
theorem dX12_gives_242 : decode cX12_gives 242 = .ok (.ireturn, 1) := by decide +kernel
theorem dX12_worthOf_0 : decode cX12_worthOf 0 = .ok (.aload_n 0, 1) := by decide +kernel
theorem dX12_worthOf_1 : decode cX12_worthOf 1 = .ok (.iload_n 1, 1) := by decide +kernel
theorem dX12_worthOf_2 : decode cX12_worthOf 2 = .ok (.iload_n 2, 1) := by decide +kernel
theorem dX12_worthOf_3 : decode cX12_worthOf 3 = .ok (.iconst 0, 1) := by decide +kernel
theorem dX12_worthOf_4 : decode cX12_worthOf 4 = .ok (.invokevirtual 221, 3) := by decide +kernel
theorem dX12_worthOf_7 : decode cX12_worthOf 7 = .ok (.aload_n 0, 1) := by decide +kernel
theorem dX12_worthOf_8 : decode cX12_worthOf 8 = .ok (.iload_n 1, 1) := by decide +kernel
theorem dX12_worthOf_9 : decode cX12_worthOf 9 = .ok (.iload_n 2, 1) := by decide +kernel
theorem dX12_worthOf_10 : decode cX12_worthOf 10 = .ok (.iconst 1, 1) := by decide +kernel
theorem dX12_worthOf_11 : decode cX12_worthOf 11 = .ok (.invokevirtual 221, 3) := by decide +kernel
theorem dX12_worthOf_14 : decode cX12_worthOf 14 = .ok (.imul, 1) := by decide +kernel
theorem dX12_worthOf_15 : decode cX12_worthOf 15 = .ok (.bipush 10, 2) := by decide +kernel
theorem dX12_worthOf_17 : decode cX12_worthOf 17 = .ok (.idiv, 1) := by decide +kernel
theorem dX12_worthOf_18 : decode cX12_worthOf 18 = .ok (.ireturn, 1) := by decide +kernel
theorem dX12_chargedOf_0 : decode cX12_chargedOf 0 = .ok (.sipush 250, 3) := by decide +kernel
theorem dX12_chargedOf_3 : decode cX12_chargedOf 3 = .ok (.bipush 12, 2) := by decide +kernel
theorem dX12_chargedOf_5 : decode cX12_chargedOf 5 = .ok (.iload_n 1, 1) := by decide +kernel
theorem dX12_chargedOf_6 : decode cX12_chargedOf 6 = .ok (.imul, 1) := by decide +kernel
theorem dX12_chargedOf_7 : decode cX12_chargedOf 7 = .ok (.iadd, 1) := by decide +kernel
theorem dX12_chargedOf_8 : decode cX12_chargedOf 8 = .ok (.istore_n 3, 1) := by decide +kernel
theorem dX12_chargedOf_9 : decode cX12_chargedOf 9 = .ok (.bipush 50, 2) := by decide +kernel
theorem dX12_chargedOf_11 : decode cX12_chargedOf 11 = .ok (.bipush 20, 2) := by decide +kernel
theorem dX12_chargedOf_13 : decode cX12_chargedOf 13 = .ok (.aload_n 0, 1) := by decide +kernel
theorem dX12_chargedOf_14 : decode cX12_chargedOf 14 = .ok (.getfield 7, 3) := by decide +kernel
theorem dX12_chargedOf_17 : decode cX12_chargedOf 17 = .ok (.iload_n 3, 1) := by decide +kernel
theorem dX12_chargedOf_18 : decode cX12_chargedOf 18 = .ok (.iconst 1, 1) := by decide +kernel
theorem dX12_chargedOf_19 : decode cX12_chargedOf 19 = .ok (.iadd, 1) := by decide +kernel
theorem dX12_chargedOf_20 : decode cX12_chargedOf 20 = .ok (.iaload, 1) := by decide +kernel
theorem dX12_chargedOf_21 : decode cX12_chargedOf 21 = .ok (.imul, 1) := by decide +kernel
theorem dX12_chargedOf_22 : decode cX12_chargedOf 22 = .ok (.iadd, 1) := by decide +kernel
theorem dX12_chargedOf_23 : decode cX12_chargedOf 23 = .ok (.istore 4, 2) := by decide +kernel
theorem dX12_chargedOf_25 : decode cX12_chargedOf 25 = .ok (.aload_n 0, 1) := by decide +kernel
theorem dX12_chargedOf_26 : decode cX12_chargedOf 26 = .ok (.getfield 7, 3) := by decide +kernel
theorem dX12_chargedOf_29 : decode cX12_chargedOf 29 = .ok (.iload 4, 2) := by decide +kernel
theorem dX12_chargedOf_31 : decode cX12_chargedOf 31 = .ok (.iaload, 1) := by decide +kernel
theorem dX12_chargedOf_32 : decode cX12_chargedOf 32 = .ok (.istore 5, 2) := by decide +kernel
theorem dX12_chargedOf_34 : decode cX12_chargedOf 34 = .ok (.iload 5, 2) := by decide +kernel
theorem dX12_chargedOf_36 : decode cX12_chargedOf 36 = .ok (.iconst 1, 1) := by decide +kernel
theorem dX12_chargedOf_37 : decode cX12_chargedOf 37 = .ok (.if_icmp .ne 5, 3) := by decide +kernel
theorem dX12_chargedOf_40 : decode cX12_chargedOf 40 = .ok (.iconst 0, 1) := by decide +kernel
theorem dX12_chargedOf_41 : decode cX12_chargedOf 41 = .ok (.ireturn, 1) := by decide +kernel
theorem dX12_chargedOf_42 : decode cX12_chargedOf 42 = .ok (.aload_n 0, 1) := by decide +kernel
theorem dX12_chargedOf_43 : decode cX12_chargedOf 43 = .ok (.iload_n 1, 1) := by decide +kernel
theorem dX12_chargedOf_44 : decode cX12_chargedOf 44 = .ok (.iload_n 2, 1) := by decide +kernel
theorem dX12_chargedOf_45 : decode cX12_chargedOf 45 = .ok (.invokevirtual 224, 3) := by decide +kernel
theorem dX12_chargedOf_48 : decode cX12_chargedOf 48 = .ok (.istore 6, 2) := by decide +kernel
theorem dX12_chargedOf_50 : decode cX12_chargedOf 50 = .ok (.iload 5, 2) := by decide +kernel
theorem dX12_chargedOf_52 : decode cX12_chargedOf 52 = .ok (.ifCond .eq 21, 3) := by decide +kernel
theorem dX12_chargedOf_55 : decode cX12_chargedOf 55 = .ok (.iload 5, 2) := by decide +kernel
theorem dX12_chargedOf_57 : decode cX12_chargedOf 57 = .ok (.iconst 3, 1) := by decide +kernel
theorem dX12_chargedOf_58 : decode cX12_chargedOf 58 = .ok (.if_icmp .ne 18, 3) := by decide +kernel
theorem dX12_chargedOf_61 : decode cX12_chargedOf 61 = .ok (.aload_n 0, 1) := by decide +kernel
theorem dX12_chargedOf_62 : decode cX12_chargedOf 62 = .ok (.getfield 7, 3) := by decide +kernel
theorem dX12_chargedOf_65 : decode cX12_chargedOf 65 = .ok (.iload_n 3, 1) := by decide +kernel
theorem dX12_chargedOf_66 : decode cX12_chargedOf 66 = .ok (.iconst 5, 1) := by decide +kernel
theorem dX12_chargedOf_67 : decode cX12_chargedOf 67 = .ok (.iadd, 1) := by decide +kernel
theorem dX12_chargedOf_68 : decode cX12_chargedOf 68 = .ok (.iaload, 1) := by decide +kernel
theorem dX12_chargedOf_69 : decode cX12_chargedOf 69 = .ok (.iconst 5, 1) := by decide +kernel
theorem dX12_chargedOf_70 : decode cX12_chargedOf 70 = .ok (.if_icmp .ne 6, 3) := by decide +kernel
theorem dX12_chargedOf_73 : decode cX12_chargedOf 73 = .ok (.iload 6, 2) := by decide +kernel
theorem dX12_chargedOf_75 : decode cX12_chargedOf 75 = .ok (.ireturn, 1) := by decide +kernel
theorem dX12_chargedOf_76 : decode cX12_chargedOf 76 = .ok (.aload_n 0, 1) := by decide +kernel
theorem dX12_chargedOf_77 : decode cX12_chargedOf 77 = .ok (.getfield 7, 3) := by decide +kernel
theorem dX12_chargedOf_80 : decode cX12_chargedOf 80 = .ok (.iload 4, 2) := by decide +kernel
theorem dX12_chargedOf_82 : decode cX12_chargedOf 82 = .ok (.iconst 2, 1) := by decide +kernel
theorem dX12_chargedOf_83 : decode cX12_chargedOf 83 = .ok (.iadd, 1) := by decide +kernel
theorem dX12_chargedOf_84 : decode cX12_chargedOf 84 = .ok (.iaload, 1) := by decide +kernel
theorem dX12_chargedOf_85 : decode cX12_chargedOf 85 = .ok (.istore 7, 2) := by decide +kernel
theorem dX12_chargedOf_87 : decode cX12_chargedOf 87 = .ok (.iconst 0, 1) := by decide +kernel
theorem dX12_chargedOf_88 : decode cX12_chargedOf 88 = .ok (.istore 8, 2) := by decide +kernel
theorem dX12_chargedOf_90 : decode cX12_chargedOf 90 = .ok (.iload 8, 2) := by decide +kernel
theorem dX12_chargedOf_92 : decode cX12_chargedOf 92 = .ok (.aload_n 0, 1) := by decide +kernel
theorem dX12_chargedOf_93 : decode cX12_chargedOf 93 = .ok (.getfield 7, 3) := by decide +kernel
theorem dX12_chargedOf_96 : decode cX12_chargedOf 96 = .ok (.bipush 7, 2) := by decide +kernel
theorem dX12_chargedOf_98 : decode cX12_chargedOf 98 = .ok (.iaload, 1) := by decide +kernel
theorem dX12_chargedOf_99 : decode cX12_chargedOf 99 = .ok (.if_icmp .ge 186, 3) := by decide +kernel
theorem dX12_chargedOf_102 : decode cX12_chargedOf 102 = .ok (.iload 7, 2) := by decide +kernel
theorem dX12_chargedOf_104 : decode cX12_chargedOf 104 = .ok (.ifCond .le 181, 3) := by decide +kernel
theorem dX12_chargedOf_107 : decode cX12_chargedOf 107 = .ok (.sipush 250, 3) := by decide +kernel
theorem dX12_chargedOf_110 : decode cX12_chargedOf 110 = .ok (.bipush 12, 2) := by decide +kernel
theorem dX12_chargedOf_112 : decode cX12_chargedOf 112 = .ok (.iload 8, 2) := by decide +kernel
theorem dX12_chargedOf_114 : decode cX12_chargedOf 114 = .ok (.imul, 1) := by decide +kernel
theorem dX12_chargedOf_115 : decode cX12_chargedOf 115 = .ok (.iadd, 1) := by decide +kernel
theorem dX12_chargedOf_116 : decode cX12_chargedOf 116 = .ok (.istore 9, 2) := by decide +kernel
theorem dX12_chargedOf_118 : decode cX12_chargedOf 118 = .ok (.aload_n 0, 1) := by decide +kernel
theorem dX12_chargedOf_119 : decode cX12_chargedOf 119 = .ok (.getfield 7, 3) := by decide +kernel
theorem dX12_chargedOf_122 : decode cX12_chargedOf 122 = .ok (.iload 9, 2) := by decide +kernel
theorem dX12_chargedOf_124 : decode cX12_chargedOf 124 = .ok (.iconst 2, 1) := by decide +kernel
theorem dX12_chargedOf_125 : decode cX12_chargedOf 125 = .ok (.iadd, 1) := by decide +kernel
theorem dX12_chargedOf_126 : decode cX12_chargedOf 126 = .ok (.iaload, 1) := by decide +kernel
theorem dX12_chargedOf_127 : decode cX12_chargedOf 127 = .ok (.aload_n 0, 1) := by decide +kernel
theorem dX12_chargedOf_128 : decode cX12_chargedOf 128 = .ok (.getfield 7, 3) := by decide +kernel
theorem dX12_chargedOf_131 : decode cX12_chargedOf 131 = .ok (.iload_n 3, 1) := by decide +kernel
theorem dX12_chargedOf_132 : decode cX12_chargedOf 132 = .ok (.iconst 2, 1) := by decide +kernel
theorem dX12_chargedOf_133 : decode cX12_chargedOf 133 = .ok (.iadd, 1) := by decide +kernel
theorem dX12_chargedOf_134 : decode cX12_chargedOf 134 = .ok (.iaload, 1) := by decide +kernel
theorem dX12_chargedOf_135 : decode cX12_chargedOf 135 = .ok (.if_icmp .lt 29, 3) := by decide +kernel
theorem dX12_chargedOf_138 : decode cX12_chargedOf 138 = .ok (.aload_n 0, 1) := by decide +kernel
theorem dX12_chargedOf_139 : decode cX12_chargedOf 139 = .ok (.getfield 7, 3) := by decide +kernel
theorem dX12_chargedOf_142 : decode cX12_chargedOf 142 = .ok (.iload 9, 2) := by decide +kernel
theorem dX12_chargedOf_144 : decode cX12_chargedOf 144 = .ok (.iconst 2, 1) := by decide +kernel
theorem dX12_chargedOf_145 : decode cX12_chargedOf 145 = .ok (.iadd, 1) := by decide +kernel
theorem dX12_chargedOf_146 : decode cX12_chargedOf 146 = .ok (.iaload, 1) := by decide +kernel
theorem dX12_chargedOf_147 : decode cX12_chargedOf 147 = .ok (.aload_n 0, 1) := by decide +kernel
theorem dX12_chargedOf_148 : decode cX12_chargedOf 148 = .ok (.getfield 7, 3) := by decide +kernel
theorem dX12_chargedOf_151 : decode cX12_chargedOf 151 = .ok (.iload_n 3, 1) := by decide +kernel
theorem dX12_chargedOf_152 : decode cX12_chargedOf 152 = .ok (.iconst 2, 1) := by decide +kernel
theorem dX12_chargedOf_153 : decode cX12_chargedOf 153 = .ok (.iadd, 1) := by decide +kernel
theorem dX12_chargedOf_154 : decode cX12_chargedOf 154 = .ok (.iaload, 1) := by decide +kernel
theorem dX12_chargedOf_155 : decode cX12_chargedOf 155 = .ok (.if_icmp .ne 13, 3) := by decide +kernel
theorem dX12_chargedOf_158 : decode cX12_chargedOf 158 = .ok (.iload 8, 2) := by decide +kernel
theorem dX12_chargedOf_160 : decode cX12_chargedOf 160 = .ok (.iload_n 1, 1) := by decide +kernel
theorem dX12_chargedOf_161 : decode cX12_chargedOf 161 = .ok (.if_icmp .ge 7, 3) := by decide +kernel
theorem dX12_chargedOf_164 : decode cX12_chargedOf 164 = .ok (.iconst 1, 1) := by decide +kernel
theorem dX12_chargedOf_165 : decode cX12_chargedOf 165 = .ok (.goto 4, 3) := by decide +kernel
theorem dX12_chargedOf_168 : decode cX12_chargedOf 168 = .ok (.iconst 0, 1) := by decide +kernel
theorem dX12_chargedOf_169 : decode cX12_chargedOf 169 = .ok (.istore 10, 2) := by decide +kernel
theorem dX12_chargedOf_171 : decode cX12_chargedOf 171 = .ok (.aload_n 0, 1) := by decide +kernel
theorem dX12_chargedOf_172 : decode cX12_chargedOf 172 = .ok (.getfield 7, 3) := by decide +kernel
theorem dX12_chargedOf_175 : decode cX12_chargedOf 175 = .ok (.iload 9, 2) := by decide +kernel
theorem dX12_chargedOf_177 : decode cX12_chargedOf 177 = .ok (.iconst 1, 1) := by decide +kernel
theorem dX12_chargedOf_178 : decode cX12_chargedOf 178 = .ok (.iadd, 1) := by decide +kernel
theorem dX12_chargedOf_179 : decode cX12_chargedOf 179 = .ok (.iaload, 1) := by decide +kernel
theorem dX12_chargedOf_180 : decode cX12_chargedOf 180 = .ok (.aload_n 0, 1) := by decide +kernel
theorem dX12_chargedOf_181 : decode cX12_chargedOf 181 = .ok (.getfield 7, 3) := by decide +kernel
theorem dX12_chargedOf_184 : decode cX12_chargedOf 184 = .ok (.iload_n 3, 1) := by decide +kernel
theorem dX12_chargedOf_185 : decode cX12_chargedOf 185 = .ok (.iconst 1, 1) := by decide +kernel
theorem dX12_chargedOf_186 : decode cX12_chargedOf 186 = .ok (.iadd, 1) := by decide +kernel
theorem dX12_chargedOf_187 : decode cX12_chargedOf 187 = .ok (.iaload, 1) := by decide +kernel
theorem dX12_chargedOf_188 : decode cX12_chargedOf 188 = .ok (.if_icmp .ne 62, 3) := by decide +kernel
theorem dX12_chargedOf_191 : decode cX12_chargedOf 191 = .ok (.aload_n 0, 1) := by decide +kernel
theorem dX12_chargedOf_192 : decode cX12_chargedOf 192 = .ok (.getfield 7, 3) := by decide +kernel
theorem dX12_chargedOf_195 : decode cX12_chargedOf 195 = .ok (.iload 9, 2) := by decide +kernel
theorem dX12_chargedOf_197 : decode cX12_chargedOf 197 = .ok (.iconst 2, 1) := by decide +kernel
theorem dX12_chargedOf_198 : decode cX12_chargedOf 198 = .ok (.iadd, 1) := by decide +kernel
theorem dX12_chargedOf_199 : decode cX12_chargedOf 199 = .ok (.iaload, 1) := by decide +kernel
theorem dX12_chargedOf_200 : decode cX12_chargedOf 200 = .ok (.bipush 30, 2) := by decide +kernel
theorem dX12_chargedOf_202 : decode cX12_chargedOf 202 = .ok (.idiv, 1) := by decide +kernel
theorem dX12_chargedOf_203 : decode cX12_chargedOf 203 = .ok (.aload_n 0, 1) := by decide +kernel
theorem dX12_chargedOf_204 : decode cX12_chargedOf 204 = .ok (.getfield 7, 3) := by decide +kernel
theorem dX12_chargedOf_207 : decode cX12_chargedOf 207 = .ok (.iload_n 3, 1) := by decide +kernel
theorem dX12_chargedOf_208 : decode cX12_chargedOf 208 = .ok (.iconst 2, 1) := by decide +kernel
theorem dX12_chargedOf_209 : decode cX12_chargedOf 209 = .ok (.iadd, 1) := by decide +kernel
theorem dX12_chargedOf_210 : decode cX12_chargedOf 210 = .ok (.iaload, 1) := by decide +kernel
theorem dX12_chargedOf_211 : decode cX12_chargedOf 211 = .ok (.bipush 30, 2) := by decide +kernel
theorem dX12_chargedOf_213 : decode cX12_chargedOf 213 = .ok (.idiv, 1) := by decide +kernel
theorem dX12_chargedOf_214 : decode cX12_chargedOf 214 = .ok (.if_icmp .ne 36, 3) := by decide +kernel
theorem dX12_chargedOf_217 : decode cX12_chargedOf 217 = .ok (.aload_n 0, 1) := by decide +kernel
theorem dX12_chargedOf_218 : decode cX12_chargedOf 218 = .ok (.iload 8, 2) := by decide +kernel
theorem dX12_chargedOf_220 : decode cX12_chargedOf 220 = .ok (.iload_n 2, 1) := by decide +kernel
theorem dX12_chargedOf_221 : decode cX12_chargedOf 221 = .ok (.invokevirtual 101, 3) := by decide +kernel
theorem dX12_chargedOf_224 : decode cX12_chargedOf 224 = .ok (.ifCond .eq 26, 3) := by decide +kernel
theorem dX12_chargedOf_227 : decode cX12_chargedOf 227 = .ok (.iload 5, 2) := by decide +kernel
theorem dX12_chargedOf_229 : decode cX12_chargedOf 229 = .ok (.iconst 2, 1) := by decide +kernel
theorem dX12_chargedOf_230 : decode cX12_chargedOf 230 = .ok (.if_icmp .eq 16, 3) := by decide +kernel
theorem dX12_chargedOf_233 : decode cX12_chargedOf 233 = .ok (.aload_n 0, 1) := by decide +kernel
theorem dX12_chargedOf_234 : decode cX12_chargedOf 234 = .ok (.getfield 7, 3) := by decide +kernel
theorem dX12_chargedOf_237 : decode cX12_chargedOf 237 = .ok (.iload 9, 2) := by decide +kernel
theorem dX12_chargedOf_239 : decode cX12_chargedOf 239 = .ok (.iconst 5, 1) := by decide +kernel
theorem dX12_chargedOf_240 : decode cX12_chargedOf 240 = .ok (.iadd, 1) := by decide +kernel
theorem dX12_chargedOf_241 : decode cX12_chargedOf 241 = .ok (.iaload, 1) := by decide +kernel
theorem dX12_chargedOf_242 : decode cX12_chargedOf 242 = .ok (.iconst 5, 1) := by decide +kernel
theorem dX12_chargedOf_243 : decode cX12_chargedOf 243 = .ok (.if_icmp .eq 7, 3) := by decide +kernel
theorem dX12_chargedOf_246 : decode cX12_chargedOf 246 = .ok (.iconst 1, 1) := by decide +kernel
theorem dX12_chargedOf_247 : decode cX12_chargedOf 247 = .ok (.goto 4, 3) := by decide +kernel
theorem dX12_chargedOf_250 : decode cX12_chargedOf 250 = .ok (.iconst 0, 1) := by decide +kernel
theorem dX12_chargedOf_251 : decode cX12_chargedOf 251 = .ok (.istore 11, 2) := by decide +kernel
theorem dX12_chargedOf_253 : decode cX12_chargedOf 253 = .ok (.iload 7, 2) := by decide +kernel
theorem dX12_chargedOf_255 : decode cX12_chargedOf 255 = .ok (.iload 10, 2) := by decide +kernel
theorem dX12_chargedOf_257 : decode cX12_chargedOf 257 = .ok (.ifCond .eq 18, 3) := by decide +kernel
theorem dX12_chargedOf_260 : decode cX12_chargedOf 260 = .ok (.iload 11, 2) := by decide +kernel
theorem dX12_chargedOf_262 : decode cX12_chargedOf 262 = .ok (.ifCond .eq 13, 3) := by decide +kernel
theorem dX12_chargedOf_265 : decode cX12_chargedOf 265 = .ok (.aload_n 0, 1) := by decide +kernel
theorem dX12_chargedOf_266 : decode cX12_chargedOf 266 = .ok (.iload 8, 2) := by decide +kernel
theorem dX12_chargedOf_268 : decode cX12_chargedOf 268 = .ok (.iload_n 2, 1) := by decide +kernel
theorem dX12_chargedOf_269 : decode cX12_chargedOf 269 = .ok (.invokevirtual 224, 3) := by decide +kernel
theorem dX12_chargedOf_272 : decode cX12_chargedOf 272 = .ok (.goto 4, 3) := by decide +kernel
theorem dX12_chargedOf_275 : decode cX12_chargedOf 275 = .ok (.iconst 0, 1) := by decide +kernel
theorem dX12_chargedOf_276 : decode cX12_chargedOf 276 = .ok (.isub, 1) := by decide +kernel
theorem dX12_chargedOf_277 : decode cX12_chargedOf 277 = .ok (.istore 7, 2) := by decide +kernel
theorem dX12_chargedOf_279 : decode cX12_chargedOf 279 = .ok (.iinc 8 1, 3) := by decide +kernel
theorem dX12_chargedOf_282 : decode cX12_chargedOf 282 = .ok (.goto (-192), 3) := by decide +kernel
theorem dX12_chargedOf_285 : decode cX12_chargedOf 285 = .ok (.iload 6, 2) := by decide +kernel
theorem dX12_chargedOf_287 : decode cX12_chargedOf 287 = .ok (.iload 7, 2) := by decide +kernel
theorem dX12_chargedOf_289 : decode cX12_chargedOf 289 = .ok (.iconst 0, 1) := by decide +kernel
theorem dX12_chargedOf_290 : decode cX12_chargedOf 290 = .ok (.invokestatic 105, 3) := by decide +kernel
theorem dX12_chargedOf_293 : decode cX12_chargedOf 293 = .ok (.invokestatic 218, 3) := by decide +kernel
theorem dX12_chargedOf_296 : decode cX12_chargedOf 296 = .ok (.ireturn, 1) := by decide +kernel
theorem dX12_worth_0 : decode cX12_worth 0 = .ok (.aload_n 0, 1) := by decide +kernel
theorem dX12_worth_1 : decode cX12_worth 1 = .ok (.iload_n 1, 1) := by decide +kernel
theorem dX12_worth_2 : decode cX12_worth 2 = .ok (.invokevirtual 98, 3) := by decide +kernel
theorem dX12_worth_5 : decode cX12_worth 5 = .ok (.ifCond .eq 20, 3) := by decide +kernel
theorem dX12_worth_8 : decode cX12_worth 8 = .ok (.aload_n 0, 1) := by decide +kernel
theorem dX12_worth_9 : decode cX12_worth 9 = .ok (.iload_n 2, 1) := by decide +kernel
theorem dX12_worth_10 : decode cX12_worth 10 = .ok (.invokevirtual 92, 3) := by decide +kernel
theorem dX12_worth_13 : decode cX12_worth 13 = .ok (.ifCond .eq 12, 3) := by decide +kernel
theorem dX12_worth_16 : decode cX12_worth 16 = .ok (.iload_n 3, 1) := by decide +kernel
theorem dX12_worth_17 : decode cX12_worth 17 = .ok (.iconst 0, 1) := by decide +kernel
theorem dX12_worth_18 : decode cX12_worth 18 = .ok (.iconst 3, 1) := by decide +kernel
theorem dX12_worth_19 : decode cX12_worth 19 = .ok (.invokestatic 68, 3) := by decide +kernel
theorem dX12_worth_22 : decode cX12_worth 22 = .ok (.ifCond .ne 6, 3) := by decide +kernel
theorem dX12_worth_25 : decode cX12_worth 25 = .ok (.ldc 72, 2) := by decide +kernel
theorem dX12_worth_27 : decode cX12_worth 27 = .ok (.ireturn, 1) := by decide +kernel
theorem dX12_worth_28 : decode cX12_worth 28 = .ok (.aload_n 0, 1) := by decide +kernel
theorem dX12_worth_29 : decode cX12_worth 29 = .ok (.iload_n 1, 1) := by decide +kernel
theorem dX12_worth_30 : decode cX12_worth 30 = .ok (.iload_n 2, 1) := by decide +kernel
theorem dX12_worth_31 : decode cX12_worth 31 = .ok (.invokevirtual 101, 3) := by decide +kernel
theorem dX12_worth_34 : decode cX12_worth 34 = .ok (.ifCond .ne 6, 3) := by decide +kernel
theorem dX12_worth_37 : decode cX12_worth 37 = .ok (.ldc 91, 2) := by decide +kernel
theorem dX12_worth_39 : decode cX12_worth 39 = .ok (.ireturn, 1) := by decide +kernel
theorem dX12_worth_40 : decode cX12_worth 40 = .ok (.iload_n 3, 1) := by decide +kernel
theorem dX12_worth_41 : decode cX12_worth 41 = .ok (.iconst 2, 1) := by decide +kernel
theorem dX12_worth_42 : decode cX12_worth 42 = .ok (.if_icmp .ge 13, 3) := by decide +kernel
theorem dX12_worth_45 : decode cX12_worth 45 = .ok (.aload_n 0, 1) := by decide +kernel
theorem dX12_worth_46 : decode cX12_worth 46 = .ok (.iload_n 1, 1) := by decide +kernel
theorem dX12_worth_47 : decode cX12_worth 47 = .ok (.iload_n 2, 1) := by decide +kernel
theorem dX12_worth_48 : decode cX12_worth 48 = .ok (.iload_n 3, 1) := by decide +kernel
theorem dX12_worth_49 : decode cX12_worth 49 = .ok (.invokevirtual 221, 3) := by decide +kernel
theorem dX12_worth_52 : decode cX12_worth 52 = .ok (.goto 23, 3) := by decide +kernel
theorem dX12_worth_55 : decode cX12_worth 55 = .ok (.iload_n 3, 1) := by decide +kernel
theorem dX12_worth_56 : decode cX12_worth 56 = .ok (.iconst 2, 1) := by decide +kernel
theorem dX12_worth_57 : decode cX12_worth 57 = .ok (.if_icmp .ne 12, 3) := by decide +kernel
theorem dX12_worth_60 : decode cX12_worth 60 = .ok (.aload_n 0, 1) := by decide +kernel
theorem dX12_worth_61 : decode cX12_worth 61 = .ok (.iload_n 1, 1) := by decide +kernel
theorem dX12_worth_62 : decode cX12_worth 62 = .ok (.iload_n 2, 1) := by decide +kernel
theorem dX12_worth_63 : decode cX12_worth 63 = .ok (.invokevirtual 224, 3) := by decide +kernel
theorem dX12_worth_66 : decode cX12_worth 66 = .ok (.goto 9, 3) := by decide +kernel
theorem dX12_worth_69 : decode cX12_worth 69 = .ok (.aload_n 0, 1) := by decide +kernel
theorem dX12_worth_70 : decode cX12_worth 70 = .ok (.iload_n 1, 1) := by decide +kernel
theorem dX12_worth_71 : decode cX12_worth 71 = .ok (.iload_n 2, 1) := by decide +kernel
theorem dX12_worth_72 : decode cX12_worth 72 = .ok (.invokevirtual 227, 3) := by decide +kernel
theorem dX12_worth_75 : decode cX12_worth 75 = .ok (.ireturn, 1) := by decide +kernel
theorem dX12_split_0 : decode cX12_split 0 = .ok (.bipush 50, 2) := by decide +kernel
theorem dX12_split_2 : decode cX12_split 2 = .ok (.bipush 20, 2) := by decide +kernel
theorem dX12_split_4 : decode cX12_split 4 = .ok (.iload_n 1, 1) := by decide +kernel
theorem dX12_split_5 : decode cX12_split 5 = .ok (.imul, 1) := by decide +kernel
theorem dX12_split_6 : decode cX12_split 6 = .ok (.iadd, 1) := by decide +kernel
theorem dX12_split_7 : decode cX12_split 7 = .ok (.istore_n 3, 1) := by decide +kernel
theorem dX12_split_8 : decode cX12_split 8 = .ok (.aload_n 0, 1) := by decide +kernel
theorem dX12_split_9 : decode cX12_split 9 = .ok (.getfield 7, 3) := by decide +kernel
theorem dX12_split_12 : decode cX12_split 12 = .ok (.iload_n 3, 1) := by decide +kernel
theorem dX12_split_13 : decode cX12_split 13 = .ok (.bipush 10, 2) := by decide +kernel
theorem dX12_split_15 : decode cX12_split 15 = .ok (.iadd, 1) := by decide +kernel
theorem dX12_split_16 : decode cX12_split 16 = .ok (.iaload, 1) := by decide +kernel
theorem dX12_split_17 : decode cX12_split 17 = .ok (.istore 4, 2) := by decide +kernel
theorem dX12_split_19 : decode cX12_split 19 = .ok (.iconst 0, 1) := by decide +kernel
theorem dX12_split_20 : decode cX12_split 20 = .ok (.istore 5, 2) := by decide +kernel
theorem dX12_split_22 : decode cX12_split 22 = .ok (.iconst 0, 1) := by decide +kernel
theorem dX12_split_23 : decode cX12_split 23 = .ok (.istore 6, 2) := by decide +kernel
theorem dX12_split_25 : decode cX12_split 25 = .ok (.iload 6, 2) := by decide +kernel
theorem dX12_split_27 : decode cX12_split 27 = .ok (.iload 4, 2) := by decide +kernel
theorem dX12_split_29 : decode cX12_split 29 = .ok (.if_icmp .ge 26, 3) := by decide +kernel
theorem dX12_split_32 : decode cX12_split 32 = .ok (.iload 5, 2) := by decide +kernel
theorem dX12_split_34 : decode cX12_split 34 = .ok (.aload_n 0, 1) := by decide +kernel
theorem dX12_split_35 : decode cX12_split 35 = .ok (.getfield 7, 3) := by decide +kernel
theorem dX12_split_38 : decode cX12_split 38 = .ok (.iload_n 3, 1) := by decide +kernel
theorem dX12_split_39 : decode cX12_split 39 = .ok (.bipush 14, 2) := by decide +kernel
theorem dX12_split_41 : decode cX12_split 41 = .ok (.iadd, 1) := by decide +kernel
theorem dX12_split_42 : decode cX12_split 42 = .ok (.iload 6, 2) := by decide +kernel
theorem dX12_split_44 : decode cX12_split 44 = .ok (.iadd, 1) := by decide +kernel
theorem dX12_split_45 : decode cX12_split 45 = .ok (.iaload, 1) := by decide +kernel
theorem dX12_split_46 : decode cX12_split 46 = .ok (.iadd, 1) := by decide +kernel
theorem dX12_split_47 : decode cX12_split 47 = .ok (.istore 5, 2) := by decide +kernel
theorem dX12_split_49 : decode cX12_split 49 = .ok (.iinc 6 1, 3) := by decide +kernel
theorem dX12_split_52 : decode cX12_split 52 = .ok (.goto (-27), 3) := by decide +kernel
theorem dX12_split_55 : decode cX12_split 55 = .ok (.iload_n 2, 1) := by decide +kernel
theorem dX12_split_56 : decode cX12_split 56 = .ok (.istore 6, 2) := by decide +kernel
theorem dX12_split_58 : decode cX12_split 58 = .ok (.iconst 0, 1) := by decide +kernel
theorem dX12_split_59 : decode cX12_split 59 = .ok (.istore 7, 2) := by decide +kernel
theorem dX12_split_61 : decode cX12_split 61 = .ok (.iload 7, 2) := by decide +kernel
theorem dX12_split_63 : decode cX12_split 63 = .ok (.iload 4, 2) := by decide +kernel
theorem dX12_split_65 : decode cX12_split 65 = .ok (.if_icmp .ge 49, 3) := by decide +kernel
theorem dX12_split_68 : decode cX12_split 68 = .ok (.aload_n 0, 1) := by decide +kernel
theorem dX12_split_69 : decode cX12_split 69 = .ok (.getfield 37, 3) := by decide +kernel
theorem dX12_split_72 : decode cX12_split 72 = .ok (.iload 7, 2) := by decide +kernel
theorem dX12_split_74 : decode cX12_split 74 = .ok (.iload_n 2, 1) := by decide +kernel
theorem dX12_split_75 : decode cX12_split 75 = .ok (.i2l, 1) := by decide +kernel
theorem dX12_split_76 : decode cX12_split 76 = .ok (.aload_n 0, 1) := by decide +kernel
theorem dX12_split_77 : decode cX12_split 77 = .ok (.getfield 7, 3) := by decide +kernel
theorem dX12_split_80 : decode cX12_split 80 = .ok (.iload_n 3, 1) := by decide +kernel
theorem dX12_split_81 : decode cX12_split 81 = .ok (.bipush 14, 2) := by decide +kernel
theorem dX12_split_83 : decode cX12_split 83 = .ok (.iadd, 1) := by decide +kernel
theorem dX12_split_84 : decode cX12_split 84 = .ok (.iload 7, 2) := by decide +kernel
theorem dX12_split_86 : decode cX12_split 86 = .ok (.iadd, 1) := by decide +kernel
theorem dX12_split_87 : decode cX12_split 87 = .ok (.iaload, 1) := by decide +kernel
theorem dX12_split_88 : decode cX12_split 88 = .ok (.i2l, 1) := by decide +kernel
theorem dX12_split_89 : decode cX12_split 89 = .ok (.lmul, 1) := by decide +kernel
theorem dX12_split_90 : decode cX12_split 90 = .ok (.iload 5, 2) := by decide +kernel
theorem dX12_split_92 : decode cX12_split 92 = .ok (.i2l, 1) := by decide +kernel
theorem dX12_split_93 : decode cX12_split 93 = .ok (.ldiv, 1) := by decide +kernel
theorem dX12_split_94 : decode cX12_split 94 = .ok (.l2i, 1) := by decide +kernel
theorem dX12_split_95 : decode cX12_split 95 = .ok (.iastore, 1) := by decide +kernel
theorem dX12_split_96 : decode cX12_split 96 = .ok (.iload 6, 2) := by decide +kernel
theorem dX12_split_98 : decode cX12_split 98 = .ok (.aload_n 0, 1) := by decide +kernel
theorem dX12_split_99 : decode cX12_split 99 = .ok (.getfield 37, 3) := by decide +kernel
theorem dX12_split_102 : decode cX12_split 102 = .ok (.iload 7, 2) := by decide +kernel
theorem dX12_split_104 : decode cX12_split 104 = .ok (.iaload, 1) := by decide +kernel
theorem dX12_split_105 : decode cX12_split 105 = .ok (.isub, 1) := by decide +kernel
theorem dX12_split_106 : decode cX12_split 106 = .ok (.istore 6, 2) := by decide +kernel
theorem dX12_split_108 : decode cX12_split 108 = .ok (.iinc 7 1, 3) := by decide +kernel
theorem dX12_split_111 : decode cX12_split 111 = .ok (.goto (-50), 3) := by decide +kernel
theorem dX12_split_114 : decode cX12_split 114 = .ok (.iconst 0, 1) := by decide +kernel
theorem dX12_split_115 : decode cX12_split 115 = .ok (.istore 7, 2) := by decide +kernel
theorem dX12_split_117 : decode cX12_split 117 = .ok (.iload 7, 2) := by decide +kernel
theorem dX12_split_119 : decode cX12_split 119 = .ok (.iload 4, 2) := by decide +kernel
theorem dX12_split_121 : decode cX12_split 121 = .ok (.if_icmp .ge 28, 3) := by decide +kernel
theorem dX12_split_124 : decode cX12_split 124 = .ok (.iload 6, 2) := by decide +kernel
theorem dX12_split_126 : decode cX12_split 126 = .ok (.ifCond .le 23, 3) := by decide +kernel
theorem dX12_split_129 : decode cX12_split 129 = .ok (.aload_n 0, 1) := by decide +kernel
theorem dX12_split_130 : decode cX12_split 130 = .ok (.getfield 37, 3) := by decide +kernel
theorem dX12_split_133 : decode cX12_split 133 = .ok (.iload 7, 2) := by decide +kernel
theorem dX12_split_135 : decode cX12_split 135 = .ok (.dup2, 1) := by decide +kernel
theorem dX12_split_136 : decode cX12_split 136 = .ok (.iaload, 1) := by decide +kernel
theorem dX12_split_137 : decode cX12_split 137 = .ok (.iconst 1, 1) := by decide +kernel
theorem dX12_split_138 : decode cX12_split 138 = .ok (.iadd, 1) := by decide +kernel
theorem dX12_split_139 : decode cX12_split 139 = .ok (.iastore, 1) := by decide +kernel
theorem dX12_split_140 : decode cX12_split 140 = .ok (.iinc 6 (-1), 3) := by decide +kernel
theorem dX12_split_143 : decode cX12_split 143 = .ok (.iinc 7 1, 3) := by decide +kernel
theorem dX12_split_146 : decode cX12_split 146 = .ok (.goto (-29), 3) := by decide +kernel
theorem dX12_split_149 : decode cX12_split 149 = .ok (.return_, 1) := by decide +kernel
theorem dX12_bill_0 : decode cX12_bill 0 = .ok (.aload_n 0, 1) := by decide +kernel
theorem dX12_bill_1 : decode cX12_bill 1 = .ok (.iload_n 1, 1) := by decide +kernel
theorem dX12_bill_2 : decode cX12_bill 2 = .ok (.invokevirtual 82, 3) := by decide +kernel
theorem dX12_bill_5 : decode cX12_bill 5 = .ok (.ifCond .eq 21, 3) := by decide +kernel
theorem dX12_bill_8 : decode cX12_bill 8 = .ok (.aload_n 0, 1) := by decide +kernel
theorem dX12_bill_9 : decode cX12_bill 9 = .ok (.iload_n 2, 1) := by decide +kernel
theorem dX12_bill_10 : decode cX12_bill 10 = .ok (.invokevirtual 92, 3) := by decide +kernel
theorem dX12_bill_13 : decode cX12_bill 13 = .ok (.ifCond .eq 13, 3) := by decide +kernel
theorem dX12_bill_16 : decode cX12_bill 16 = .ok (.iload_n 3, 1) := by decide +kernel
theorem dX12_bill_17 : decode cX12_bill 17 = .ok (.iconst 0, 1) := by decide +kernel
theorem dX12_bill_18 : decode cX12_bill 18 = .ok (.bipush 100, 2) := by decide +kernel
theorem dX12_bill_20 : decode cX12_bill 20 = .ok (.invokestatic 68, 3) := by decide +kernel
theorem dX12_bill_23 : decode cX12_bill 23 = .ok (.ifCond .ne 6, 3) := by decide +kernel
theorem dX12_bill_26 : decode cX12_bill 26 = .ok (.ldc 72, 2) := by decide +kernel
theorem dX12_bill_28 : decode cX12_bill 28 = .ok (.ireturn, 1) := by decide +kernel
theorem dX12_bill_29 : decode cX12_bill 29 = .ok (.aload_n 0, 1) := by decide +kernel
theorem dX12_bill_30 : decode cX12_bill 30 = .ok (.getfield 7, 3) := by decide +kernel
theorem dX12_bill_33 : decode cX12_bill 33 = .ok (.bipush 10, 2) := by decide +kernel
theorem dX12_bill_35 : decode cX12_bill 35 = .ok (.iaload, 1) := by decide +kernel
theorem dX12_bill_36 : decode cX12_bill 36 = .ok (.bipush 16, 2) := by decide +kernel
theorem dX12_bill_38 : decode cX12_bill 38 = .ok (.if_icmp .ne 6, 3) := by decide +kernel
theorem dX12_bill_41 : decode cX12_bill 41 = .ok (.ldc 73, 2) := by decide +kernel
theorem dX12_bill_43 : decode cX12_bill 43 = .ok (.ireturn, 1) := by decide +kernel
theorem dX12_bill_44 : decode cX12_bill 44 = .ok (.bipush 50, 2) := by decide +kernel
theorem dX12_bill_46 : decode cX12_bill 46 = .ok (.bipush 20, 2) := by decide +kernel
theorem dX12_bill_48 : decode cX12_bill 48 = .ok (.iload_n 1, 1) := by decide +kernel
theorem dX12_bill_49 : decode cX12_bill 49 = .ok (.imul, 1) := by decide +kernel
theorem dX12_bill_50 : decode cX12_bill 50 = .ok (.iadd, 1) := by decide +kernel
theorem dX12_bill_51 : decode cX12_bill 51 = .ok (.istore 4, 2) := by decide +kernel
theorem dX12_bill_53 : decode cX12_bill 53 = .ok (.aload_n 0, 1) := by decide +kernel
theorem dX12_bill_54 : decode cX12_bill 54 = .ok (.getfield 7, 3) := by decide +kernel
theorem dX12_bill_57 : decode cX12_bill 57 = .ok (.iload 4, 2) := by decide +kernel
theorem dX12_bill_59 : decode cX12_bill 59 = .ok (.iaload, 1) := by decide +kernel
theorem dX12_bill_60 : decode cX12_bill 60 = .ok (.iconst 1, 1) := by decide +kernel
theorem dX12_bill_61 : decode cX12_bill 61 = .ok (.if_icmp .ne 23, 3) := by decide +kernel
theorem dX12_bill_64 : decode cX12_bill 64 = .ok (.aload_n 0, 1) := by decide +kernel
theorem dX12_bill_65 : decode cX12_bill 65 = .ok (.iload_n 1, 1) := by decide +kernel
theorem dX12_bill_66 : decode cX12_bill 66 = .ok (.invokevirtual 88, 3) := by decide +kernel
theorem dX12_bill_69 : decode cX12_bill 69 = .ok (.ifCond .ne 15, 3) := by decide +kernel
theorem dX12_bill_72 : decode cX12_bill 72 = .ok (.aload_n 0, 1) := by decide +kernel
theorem dX12_bill_73 : decode cX12_bill 73 = .ok (.getfield 7, 3) := by decide +kernel
theorem dX12_bill_76 : decode cX12_bill 76 = .ok (.iload 4, 2) := by decide +kernel
theorem dX12_bill_78 : decode cX12_bill 78 = .ok (.iconst 2, 1) := by decide +kernel
theorem dX12_bill_79 : decode cX12_bill 79 = .ok (.iadd, 1) := by decide +kernel
theorem dX12_bill_80 : decode cX12_bill 80 = .ok (.iaload, 1) := by decide +kernel
theorem dX12_bill_81 : decode cX12_bill 81 = .ok (.goto 4, 3) := by decide +kernel
theorem dX12_bill_84 : decode cX12_bill 84 = .ok (.iconst 0, 1) := by decide +kernel
theorem dX12_bill_85 : decode cX12_bill 85 = .ok (.istore 5, 2) := by decide +kernel
theorem dX12_bill_87 : decode cX12_bill 87 = .ok (.sipush 1630, 3) := by decide +kernel
theorem dX12_bill_90 : decode cX12_bill 90 = .ok (.bipush 12, 2) := by decide +kernel
theorem dX12_bill_92 : decode cX12_bill 92 = .ok (.aload_n 0, 1) := by decide +kernel
theorem dX12_bill_93 : decode cX12_bill 93 = .ok (.getfield 7, 3) := by decide +kernel
theorem dX12_bill_96 : decode cX12_bill 96 = .ok (.bipush 10, 2) := by decide +kernel
theorem dX12_bill_98 : decode cX12_bill 98 = .ok (.iaload, 1) := by decide +kernel
theorem dX12_bill_99 : decode cX12_bill 99 = .ok (.imul, 1) := by decide +kernel
theorem dX12_bill_100 : decode cX12_bill 100 = .ok (.iadd, 1) := by decide +kernel
theorem dX12_bill_101 : decode cX12_bill 101 = .ok (.istore 6, 2) := by decide +kernel
theorem dX12_bill_103 : decode cX12_bill 103 = .ok (.iconst 0, 1) := by decide +kernel
theorem dX12_bill_104 : decode cX12_bill 104 = .ok (.istore 7, 2) := by decide +kernel
theorem dX12_bill_106 : decode cX12_bill 106 = .ok (.iload 7, 2) := by decide +kernel
theorem dX12_bill_108 : decode cX12_bill 108 = .ok (.bipush 12, 2) := by decide +kernel
theorem dX12_bill_110 : decode cX12_bill 110 = .ok (.if_icmp .ge 20, 3) := by decide +kernel
theorem dX12_bill_113 : decode cX12_bill 113 = .ok (.aload_n 0, 1) := by decide +kernel
theorem dX12_bill_114 : decode cX12_bill 114 = .ok (.getfield 7, 3) := by decide +kernel
theorem dX12_bill_117 : decode cX12_bill 117 = .ok (.iload 6, 2) := by decide +kernel
theorem dX12_bill_119 : decode cX12_bill 119 = .ok (.iload 7, 2) := by decide +kernel
theorem dX12_bill_121 : decode cX12_bill 121 = .ok (.iadd, 1) := by decide +kernel
theorem dX12_bill_122 : decode cX12_bill 122 = .ok (.iconst 0, 1) := by decide +kernel
theorem dX12_bill_123 : decode cX12_bill 123 = .ok (.iastore, 1) := by decide +kernel
theorem dX12_bill_124 : decode cX12_bill 124 = .ok (.iinc 7 1, 3) := by decide +kernel
theorem dX12_bill_127 : decode cX12_bill 127 = .ok (.goto (-21), 3) := by decide +kernel
theorem dX12_bill_130 : decode cX12_bill 130 = .ok (.iconst 0, 1) := by decide +kernel
theorem dX12_bill_131 : decode cX12_bill 131 = .ok (.istore 7, 2) := by decide +kernel
theorem dX12_bill_133 : decode cX12_bill 133 = .ok (.iload 7, 2) := by decide +kernel
theorem dX12_bill_135 : decode cX12_bill 135 = .ok (.aload_n 0, 1) := by decide +kernel
theorem dX12_bill_136 : decode cX12_bill 136 = .ok (.getfield 7, 3) := by decide +kernel
theorem dX12_bill_139 : decode cX12_bill 139 = .ok (.bipush 7, 2) := by decide +kernel
theorem dX12_bill_141 : decode cX12_bill 141 = .ok (.iaload, 1) := by decide +kernel
theorem dX12_bill_142 : decode cX12_bill 142 = .ok (.if_icmp .ge 145, 3) := by decide +kernel
theorem dX12_bill_145 : decode cX12_bill 145 = .ok (.sipush 250, 3) := by decide +kernel
theorem dX12_bill_148 : decode cX12_bill 148 = .ok (.bipush 12, 2) := by decide +kernel
theorem dX12_bill_150 : decode cX12_bill 150 = .ok (.iload 7, 2) := by decide +kernel
theorem dX12_bill_152 : decode cX12_bill 152 = .ok (.imul, 1) := by decide +kernel
theorem dX12_bill_153 : decode cX12_bill 153 = .ok (.iadd, 1) := by decide +kernel
theorem dX12_bill_154 : decode cX12_bill 154 = .ok (.istore 8, 2) := by decide +kernel
theorem dX12_bill_156 : decode cX12_bill 156 = .ok (.aload_n 0, 1) := by decide +kernel
theorem dX12_bill_157 : decode cX12_bill 157 = .ok (.getfield 7, 3) := by decide +kernel
theorem dX12_bill_160 : decode cX12_bill 160 = .ok (.iload 8, 2) := by decide +kernel
theorem dX12_bill_162 : decode cX12_bill 162 = .ok (.iconst 1, 1) := by decide +kernel
theorem dX12_bill_163 : decode cX12_bill 163 = .ok (.iadd, 1) := by decide +kernel
theorem dX12_bill_164 : decode cX12_bill 164 = .ok (.iaload, 1) := by decide +kernel
theorem dX12_bill_165 : decode cX12_bill 165 = .ok (.iload_n 1, 1) := by decide +kernel
theorem dX12_bill_166 : decode cX12_bill 166 = .ok (.if_icmp .ne 115, 3) := by decide +kernel
theorem dX12_bill_169 : decode cX12_bill 169 = .ok (.aload_n 0, 1) := by decide +kernel
theorem dX12_bill_170 : decode cX12_bill 170 = .ok (.getfield 7, 3) := by decide +kernel
theorem dX12_bill_173 : decode cX12_bill 173 = .ok (.iload 8, 2) := by decide +kernel
theorem dX12_bill_175 : decode cX12_bill 175 = .ok (.iconst 2, 1) := by decide +kernel
theorem dX12_bill_176 : decode cX12_bill 176 = .ok (.iadd, 1) := by decide +kernel
theorem dX12_bill_177 : decode cX12_bill 177 = .ok (.iaload, 1) := by decide +kernel
theorem dX12_bill_178 : decode cX12_bill 178 = .ok (.iload_n 2, 1) := by decide +kernel
theorem dX12_bill_179 : decode cX12_bill 179 = .ok (.if_icmp .gt 102, 3) := by decide +kernel
theorem dX12_bill_182 : decode cX12_bill 182 = .ok (.aload_n 0, 1) := by decide +kernel
theorem dX12_bill_183 : decode cX12_bill 183 = .ok (.getfield 7, 3) := by decide +kernel
theorem dX12_bill_186 : decode cX12_bill 186 = .ok (.iload 8, 2) := by decide +kernel
theorem dX12_bill_188 : decode cX12_bill 188 = .ok (.bipush 8, 2) := by decide +kernel
theorem dX12_bill_190 : decode cX12_bill 190 = .ok (.iadd, 1) := by decide +kernel
theorem dX12_bill_191 : decode cX12_bill 191 = .ok (.iaload, 1) := by decide +kernel
theorem dX12_bill_192 : decode cX12_bill 192 = .ok (.iconst (-1), 1) := by decide +kernel
theorem dX12_bill_193 : decode cX12_bill 193 = .ok (.if_icmp .ne 88, 3) := by decide +kernel
theorem dX12_bill_196 : decode cX12_bill 196 = .ok (.aload_n 0, 1) := by decide +kernel
theorem dX12_bill_197 : decode cX12_bill 197 = .ok (.iload 7, 2) := by decide +kernel
theorem dX12_bill_199 : decode cX12_bill 199 = .ok (.aload_n 0, 1) := by decide +kernel
theorem dX12_bill_200 : decode cX12_bill 200 = .ok (.getfield 7, 3) := by decide +kernel
theorem dX12_bill_203 : decode cX12_bill 203 = .ok (.iconst 0, 1) := by decide +kernel
theorem dX12_bill_204 : decode cX12_bill 204 = .ok (.iaload, 1) := by decide +kernel
theorem dX12_bill_205 : decode cX12_bill 205 = .ok (.invokevirtual 101, 3) := by decide +kernel
theorem dX12_bill_208 : decode cX12_bill 208 = .ok (.ifCond .ne 6, 3) := by decide +kernel
theorem dX12_bill_211 : decode cX12_bill 211 = .ok (.goto 70, 3) := by decide +kernel
theorem dX12_bill_214 : decode cX12_bill 214 = .ok (.aload_n 0, 1) := by decide +kernel
theorem dX12_bill_215 : decode cX12_bill 215 = .ok (.getfield 7, 3) := by decide +kernel
theorem dX12_bill_218 : decode cX12_bill 218 = .ok (.iload 8, 2) := by decide +kernel
theorem dX12_bill_220 : decode cX12_bill 220 = .ok (.bipush 8, 2) := by decide +kernel
theorem dX12_bill_222 : decode cX12_bill 222 = .ok (.iadd, 1) := by decide +kernel
theorem dX12_bill_223 : decode cX12_bill 223 = .ok (.aload_n 0, 1) := by decide +kernel
theorem dX12_bill_224 : decode cX12_bill 224 = .ok (.getfield 7, 3) := by decide +kernel
theorem dX12_bill_227 : decode cX12_bill 227 = .ok (.bipush 10, 2) := by decide +kernel
theorem dX12_bill_229 : decode cX12_bill 229 = .ok (.iaload, 1) := by decide +kernel
theorem dX12_bill_230 : decode cX12_bill 230 = .ok (.iastore, 1) := by decide +kernel
theorem dX12_bill_231 : decode cX12_bill 231 = .ok (.aload_n 0, 1) := by decide +kernel
theorem dX12_bill_232 : decode cX12_bill 232 = .ok (.getfield 7, 3) := by decide +kernel
theorem dX12_bill_235 : decode cX12_bill 235 = .ok (.iload 8, 2) := by decide +kernel
theorem dX12_bill_237 : decode cX12_bill 237 = .ok (.bipush 9, 2) := by decide +kernel
theorem dX12_bill_239 : decode cX12_bill 239 = .ok (.iadd, 1) := by decide +kernel
theorem dX12_bill_240 : decode cX12_bill 240 = .ok (.aload_n 0, 1) := by decide +kernel
theorem dX12_bill_241 : decode cX12_bill 241 = .ok (.iload 7, 2) := by decide +kernel
theorem dX12_bill_243 : decode cX12_bill 243 = .ok (.aload_n 0, 1) := by decide +kernel
theorem dX12_bill_244 : decode cX12_bill 244 = .ok (.getfield 7, 3) := by decide +kernel
theorem dX12_bill_247 : decode cX12_bill 247 = .ok (.iconst 0, 1) := by decide +kernel
theorem dX12_bill_248 : decode cX12_bill 248 = .ok (.iaload, 1) := by decide +kernel
theorem dX12_bill_249 : decode cX12_bill 249 = .ok (.invokevirtual 227, 3) := by decide +kernel
theorem dX12_bill_252 : decode cX12_bill 252 = .ok (.iastore, 1) := by decide +kernel
theorem dX12_bill_253 : decode cX12_bill 253 = .ok (.iload 5, 2) := by decide +kernel
theorem dX12_bill_255 : decode cX12_bill 255 = .ok (.aload_n 0, 1) := by decide +kernel
theorem dX12_bill_256 : decode cX12_bill 256 = .ok (.getfield 7, 3) := by decide +kernel
theorem dX12_bill_259 : decode cX12_bill 259 = .ok (.iload 8, 2) := by decide +kernel
theorem dX12_bill_261 : decode cX12_bill 261 = .ok (.bipush 9, 2) := by decide +kernel
theorem dX12_bill_263 : decode cX12_bill 263 = .ok (.iadd, 1) := by decide +kernel
theorem dX12_bill_264 : decode cX12_bill 264 = .ok (.iaload, 1) := by decide +kernel
theorem dX12_bill_265 : decode cX12_bill 265 = .ok (.iadd, 1) := by decide +kernel
theorem dX12_bill_266 : decode cX12_bill 266 = .ok (.istore 5, 2) := by decide +kernel
theorem dX12_bill_268 : decode cX12_bill 268 = .ok (.aload_n 0, 1) := by decide +kernel
theorem dX12_bill_269 : decode cX12_bill 269 = .ok (.getfield 7, 3) := by decide +kernel
theorem dX12_bill_272 : decode cX12_bill 272 = .ok (.iload 6, 2) := by decide +kernel
theorem dX12_bill_274 : decode cX12_bill 274 = .ok (.iconst 5, 1) := by decide +kernel
theorem dX12_bill_275 : decode cX12_bill 275 = .ok (.iadd, 1) := by decide +kernel
theorem dX12_bill_276 : decode cX12_bill 276 = .ok (.dup2, 1) := by decide +kernel
theorem dX12_bill_277 : decode cX12_bill 277 = .ok (.iaload, 1) := by decide +kernel
theorem dX12_bill_278 : decode cX12_bill 278 = .ok (.iconst 1, 1) := by decide +kernel
theorem dX12_bill_279 : decode cX12_bill 279 = .ok (.iadd, 1) := by decide +kernel
theorem dX12_bill_280 : decode cX12_bill 280 = .ok (.iastore, 1) := by decide +kernel
theorem dX12_bill_281 : decode cX12_bill 281 = .ok (.iinc 7 1, 3) := by decide +kernel
theorem dX12_bill_284 : decode cX12_bill 284 = .ok (.goto (-151), 3) := by decide +kernel
theorem dX12_bill_287 : decode cX12_bill 287 = .ok (.aload_n 0, 1) := by decide +kernel
theorem dX12_bill_288 : decode cX12_bill 288 = .ok (.getfield 7, 3) := by decide +kernel
theorem dX12_bill_291 : decode cX12_bill 291 = .ok (.iload 6, 2) := by decide +kernel
theorem dX12_bill_293 : decode cX12_bill 293 = .ok (.iload_n 1, 1) := by decide +kernel
theorem dX12_bill_294 : decode cX12_bill 294 = .ok (.iastore, 1) := by decide +kernel
theorem dX12_bill_295 : decode cX12_bill 295 = .ok (.aload_n 0, 1) := by decide +kernel
theorem dX12_bill_296 : decode cX12_bill 296 = .ok (.getfield 7, 3) := by decide +kernel
theorem dX12_bill_299 : decode cX12_bill 299 = .ok (.iload 6, 2) := by decide +kernel
theorem dX12_bill_301 : decode cX12_bill 301 = .ok (.iconst 1, 1) := by decide +kernel
theorem dX12_bill_302 : decode cX12_bill 302 = .ok (.iadd, 1) := by decide +kernel
theorem dX12_bill_303 : decode cX12_bill 303 = .ok (.aload_n 0, 1) := by decide +kernel
theorem dX12_bill_304 : decode cX12_bill 304 = .ok (.getfield 7, 3) := by decide +kernel
theorem dX12_bill_307 : decode cX12_bill 307 = .ok (.iconst 0, 1) := by decide +kernel
theorem dX12_bill_308 : decode cX12_bill 308 = .ok (.iaload, 1) := by decide +kernel
theorem dX12_bill_309 : decode cX12_bill 309 = .ok (.iastore, 1) := by decide +kernel
theorem dX12_bill_310 : decode cX12_bill 310 = .ok (.aload_n 0, 1) := by decide +kernel
theorem dX12_bill_311 : decode cX12_bill 311 = .ok (.getfield 7, 3) := by decide +kernel
theorem dX12_bill_314 : decode cX12_bill 314 = .ok (.iload 6, 2) := by decide +kernel
theorem dX12_bill_316 : decode cX12_bill 316 = .ok (.iconst 2, 1) := by decide +kernel
theorem dX12_bill_317 : decode cX12_bill 317 = .ok (.iadd, 1) := by decide +kernel
theorem dX12_bill_318 : decode cX12_bill 318 = .ok (.iload 5, 2) := by decide +kernel
theorem dX12_bill_320 : decode cX12_bill 320 = .ok (.iastore, 1) := by decide +kernel
theorem dX12_bill_321 : decode cX12_bill 321 = .ok (.aload_n 0, 1) := by decide +kernel
theorem dX12_bill_322 : decode cX12_bill 322 = .ok (.getfield 7, 3) := by decide +kernel
theorem dX12_bill_325 : decode cX12_bill 325 = .ok (.iload 6, 2) := by decide +kernel
theorem dX12_bill_327 : decode cX12_bill 327 = .ok (.iconst 3, 1) := by decide +kernel
theorem dX12_bill_328 : decode cX12_bill 328 = .ok (.iadd, 1) := by decide +kernel
theorem dX12_bill_329 : decode cX12_bill 329 = .ok (.iload 5, 2) := by decide +kernel
theorem dX12_bill_331 : decode cX12_bill 331 = .ok (.iload 5, 2) := by decide +kernel
theorem dX12_bill_333 : decode cX12_bill 333 = .ok (.i2l, 1) := by decide +kernel
theorem dX12_bill_334 : decode cX12_bill 334 = .ok (.iload_n 3, 1) := by decide +kernel
theorem dX12_bill_335 : decode cX12_bill 335 = .ok (.i2l, 1) := by decide +kernel
theorem dX12_bill_336 : decode cX12_bill 336 = .ok (.lmul, 1) := by decide +kernel
theorem dX12_bill_337 : decode cX12_bill 337 = .ok (.ldc2_w 230, 3) := by decide +kernel
theorem dX12_bill_340 : decode cX12_bill 340 = .ok (.ldiv, 1) := by decide +kernel
theorem dX12_bill_341 : decode cX12_bill 341 = .ok (.l2i, 1) := by decide +kernel
theorem dX12_bill_342 : decode cX12_bill 342 = .ok (.isub, 1) := by decide +kernel
theorem dX12_bill_343 : decode cX12_bill 343 = .ok (.iastore, 1) := by decide +kernel
theorem dX12_bill_344 : decode cX12_bill 344 = .ok (.aload_n 0, 1) := by decide +kernel
theorem dX12_bill_345 : decode cX12_bill 345 = .ok (.getfield 7, 3) := by decide +kernel
theorem dX12_bill_348 : decode cX12_bill 348 = .ok (.iload 6, 2) := by decide +kernel
theorem dX12_bill_350 : decode cX12_bill 350 = .ok (.iconst 4, 1) := by decide +kernel
theorem dX12_bill_351 : decode cX12_bill 351 = .ok (.iadd, 1) := by decide +kernel
theorem dX12_bill_352 : decode cX12_bill 352 = .ok (.aload_n 0, 1) := by decide +kernel
theorem dX12_bill_353 : decode cX12_bill 353 = .ok (.getfield 7, 3) := by decide +kernel
theorem dX12_bill_356 : decode cX12_bill 356 = .ok (.iload 4, 2) := by decide +kernel
theorem dX12_bill_358 : decode cX12_bill 358 = .ok (.iconst 3, 1) := by decide +kernel
theorem dX12_bill_359 : decode cX12_bill 359 = .ok (.iadd, 1) := by decide +kernel
theorem dX12_bill_360 : decode cX12_bill 360 = .ok (.iaload, 1) := by decide +kernel
theorem dX12_bill_361 : decode cX12_bill 361 = .ok (.aload_n 0, 1) := by decide +kernel
theorem dX12_bill_362 : decode cX12_bill 362 = .ok (.getfield 7, 3) := by decide +kernel
theorem dX12_bill_365 : decode cX12_bill 365 = .ok (.iload 6, 2) := by decide +kernel
theorem dX12_bill_367 : decode cX12_bill 367 = .ok (.iconst 3, 1) := by decide +kernel
theorem dX12_bill_368 : decode cX12_bill 368 = .ok (.iadd, 1) := by decide +kernel
theorem dX12_bill_369 : decode cX12_bill 369 = .ok (.iaload, 1) := by decide +kernel
theorem dX12_bill_370 : decode cX12_bill 370 = .ok (.invokestatic 218, 3) := by decide +kernel
theorem dX12_bill_373 : decode cX12_bill 373 = .ok (.iastore, 1) := by decide +kernel
theorem dX12_bill_374 : decode cX12_bill 374 = .ok (.aload_n 0, 1) := by decide +kernel
theorem dX12_bill_375 : decode cX12_bill 375 = .ok (.getfield 7, 3) := by decide +kernel
theorem dX12_bill_378 : decode cX12_bill 378 = .ok (.iload 4, 2) := by decide +kernel
theorem dX12_bill_380 : decode cX12_bill 380 = .ok (.iconst 3, 1) := by decide +kernel
theorem dX12_bill_381 : decode cX12_bill 381 = .ok (.iadd, 1) := by decide +kernel
theorem dX12_bill_382 : decode cX12_bill 382 = .ok (.dup2, 1) := by decide +kernel
theorem dX12_bill_383 : decode cX12_bill 383 = .ok (.iaload, 1) := by decide +kernel
theorem dX12_bill_384 : decode cX12_bill 384 = .ok (.aload_n 0, 1) := by decide +kernel
theorem dX12_bill_385 : decode cX12_bill 385 = .ok (.getfield 7, 3) := by decide +kernel
theorem dX12_bill_388 : decode cX12_bill 388 = .ok (.iload 6, 2) := by decide +kernel
theorem dX12_bill_390 : decode cX12_bill 390 = .ok (.iconst 4, 1) := by decide +kernel
theorem dX12_bill_391 : decode cX12_bill 391 = .ok (.iadd, 1) := by decide +kernel
theorem dX12_bill_392 : decode cX12_bill 392 = .ok (.iaload, 1) := by decide +kernel
theorem dX12_bill_393 : decode cX12_bill 393 = .ok (.isub, 1) := by decide +kernel
theorem dX12_bill_394 : decode cX12_bill 394 = .ok (.iastore, 1) := by decide +kernel
theorem dX12_bill_395 : decode cX12_bill 395 = .ok (.aload_n 0, 1) := by decide +kernel
theorem dX12_bill_396 : decode cX12_bill 396 = .ok (.iload_n 1, 1) := by decide +kernel
theorem dX12_bill_397 : decode cX12_bill 397 = .ok (.aload_n 0, 1) := by decide +kernel
theorem dX12_bill_398 : decode cX12_bill 398 = .ok (.getfield 7, 3) := by decide +kernel
theorem dX12_bill_401 : decode cX12_bill 401 = .ok (.iload 6, 2) := by decide +kernel
theorem dX12_bill_403 : decode cX12_bill 403 = .ok (.iconst 3, 1) := by decide +kernel
theorem dX12_bill_404 : decode cX12_bill 404 = .ok (.iadd, 1) := by decide +kernel
theorem dX12_bill_405 : decode cX12_bill 405 = .ok (.iaload, 1) := by decide +kernel
theorem dX12_bill_406 : decode cX12_bill 406 = .ok (.aload_n 0, 1) := by decide +kernel
theorem dX12_bill_407 : decode cX12_bill 407 = .ok (.getfield 7, 3) := by decide +kernel
theorem dX12_bill_410 : decode cX12_bill 410 = .ok (.iload 6, 2) := by decide +kernel
theorem dX12_bill_412 : decode cX12_bill 412 = .ok (.iconst 4, 1) := by decide +kernel
theorem dX12_bill_413 : decode cX12_bill 413 = .ok (.iadd, 1) := by decide +kernel
theorem dX12_bill_414 : decode cX12_bill 414 = .ok (.iaload, 1) := by decide +kernel
theorem dX12_bill_415 : decode cX12_bill 415 = .ok (.isub, 1) := by decide +kernel
theorem dX12_bill_416 : decode cX12_bill 416 = .ok (.invokevirtual 232, 3) := by decide +kernel
theorem dX12_bill_419 : decode cX12_bill 419 = .ok (.iconst 0, 1) := by decide +kernel
theorem dX12_bill_420 : decode cX12_bill 420 = .ok (.istore 7, 2) := by decide +kernel
theorem dX12_bill_422 : decode cX12_bill 422 = .ok (.iload 7, 2) := by decide +kernel
theorem dX12_bill_424 : decode cX12_bill 424 = .ok (.aload_n 0, 1) := by decide +kernel
theorem dX12_bill_425 : decode cX12_bill 425 = .ok (.getfield 7, 3) := by decide +kernel
theorem dX12_bill_428 : decode cX12_bill 428 = .ok (.iload 4, 2) := by decide +kernel
theorem dX12_bill_430 : decode cX12_bill 430 = .ok (.bipush 10, 2) := by decide +kernel
theorem dX12_bill_432 : decode cX12_bill 432 = .ok (.iadd, 1) := by decide +kernel
theorem dX12_bill_433 : decode cX12_bill 433 = .ok (.iaload, 1) := by decide +kernel
theorem dX12_bill_434 : decode cX12_bill 434 = .ok (.if_icmp .ge 40, 3) := by decide +kernel
theorem dX12_bill_437 : decode cX12_bill 437 = .ok (.aload_n 0, 1) := by decide +kernel
theorem dX12_bill_438 : decode cX12_bill 438 = .ok (.getfield 7, 3) := by decide +kernel
theorem dX12_bill_441 : decode cX12_bill 441 = .ok (.iload 6, 2) := by decide +kernel
theorem dX12_bill_443 : decode cX12_bill 443 = .ok (.bipush 6, 2) := by decide +kernel
theorem dX12_bill_445 : decode cX12_bill 445 = .ok (.iadd, 1) := by decide +kernel
theorem dX12_bill_446 : decode cX12_bill 446 = .ok (.aload_n 0, 1) := by decide +kernel
theorem dX12_bill_447 : decode cX12_bill 447 = .ok (.getfield 7, 3) := by decide +kernel
theorem dX12_bill_450 : decode cX12_bill 450 = .ok (.iload 4, 2) := by decide +kernel
theorem dX12_bill_452 : decode cX12_bill 452 = .ok (.bipush 11, 2) := by decide +kernel
theorem dX12_bill_454 : decode cX12_bill 454 = .ok (.iadd, 1) := by decide +kernel
theorem dX12_bill_455 : decode cX12_bill 455 = .ok (.iload 7, 2) := by decide +kernel
theorem dX12_bill_457 : decode cX12_bill 457 = .ok (.iadd, 1) := by decide +kernel
theorem dX12_bill_458 : decode cX12_bill 458 = .ok (.iaload, 1) := by decide +kernel
theorem dX12_bill_459 : decode cX12_bill 459 = .ok (.iadd, 1) := by decide +kernel
theorem dX12_bill_460 : decode cX12_bill 460 = .ok (.aload_n 0, 1) := by decide +kernel
theorem dX12_bill_461 : decode cX12_bill 461 = .ok (.getfield 37, 3) := by decide +kernel
theorem dX12_bill_464 : decode cX12_bill 464 = .ok (.iload 7, 2) := by decide +kernel
theorem dX12_bill_466 : decode cX12_bill 466 = .ok (.iaload, 1) := by decide +kernel
theorem dX12_bill_467 : decode cX12_bill 467 = .ok (.iastore, 1) := by decide +kernel
theorem dX12_bill_468 : decode cX12_bill 468 = .ok (.iinc 7 1, 3) := by decide +kernel
theorem dX12_bill_471 : decode cX12_bill 471 = .ok (.goto (-49), 3) := by decide +kernel
theorem dX12_bill_474 : decode cX12_bill 474 = .ok (.aload_n 0, 1) := by decide +kernel
theorem dX12_bill_475 : decode cX12_bill 475 = .ok (.getfield 7, 3) := by decide +kernel
theorem dX12_bill_478 : decode cX12_bill 478 = .ok (.bipush 10, 2) := by decide +kernel
theorem dX12_bill_480 : decode cX12_bill 480 = .ok (.dup2, 1) := by decide +kernel
theorem dX12_bill_481 : decode cX12_bill 481 = .ok (.iaload, 1) := by decide +kernel
theorem dX12_bill_482 : decode cX12_bill 482 = .ok (.iconst 1, 1) := by decide +kernel
theorem dX12_bill_483 : decode cX12_bill 483 = .ok (.iadd, 1) := by decide +kernel
theorem dX12_bill_484 : decode cX12_bill 484 = .ok (.iastore, 1) := by decide +kernel
theorem dX12_bill_485 : decode cX12_bill 485 = .ok (.aload_n 0, 1) := by decide +kernel
theorem dX12_bill_486 : decode cX12_bill 486 = .ok (.getfield 7, 3) := by decide +kernel
theorem dX12_bill_489 : decode cX12_bill 489 = .ok (.bipush 10, 2) := by decide +kernel
theorem dX12_bill_491 : decode cX12_bill 491 = .ok (.iaload, 1) := by decide +kernel
theorem dX12_bill_492 : decode cX12_bill 492 = .ok (.iconst 1, 1) := by decide +kernel
theorem dX12_bill_493 : decode cX12_bill 493 = .ok (.isub, 1) := by decide +kernel
theorem dX12_bill_494 : decode cX12_bill 494 = .ok (.ireturn, 1) := by decide +kernel
theorem dX12_about_0 : decode cX12_about 0 = .ok (.aload_n 0, 1) := by decide +kernel
theorem dX12_about_1 : decode cX12_about 1 = .ok (.iload_n 1, 1) := by decide +kernel
theorem dX12_about_2 : decode cX12_about 2 = .ok (.invokevirtual 235, 3) := by decide +kernel
theorem dX12_about_5 : decode cX12_about 5 = .ok (.ifCond .eq 13, 3) := by decide +kernel
theorem dX12_about_8 : decode cX12_about 8 = .ok (.iload_n 2, 1) := by decide +kernel
theorem dX12_about_9 : decode cX12_about 9 = .ok (.iconst 0, 1) := by decide +kernel
theorem dX12_about_10 : decode cX12_about 10 = .ok (.bipush 6, 2) := by decide +kernel
theorem dX12_about_12 : decode cX12_about 12 = .ok (.invokestatic 68, 3) := by decide +kernel
theorem dX12_about_15 : decode cX12_about 15 = .ok (.ifCond .ne 6, 3) := by decide +kernel
theorem dX12_about_18 : decode cX12_about 18 = .ok (.ldc 72, 2) := by decide +kernel
theorem dX12_about_20 : decode cX12_about 20 = .ok (.ireturn, 1) := by decide +kernel
theorem dX12_about_21 : decode cX12_about 21 = .ok (.sipush 1630, 3) := by decide +kernel
theorem dX12_about_24 : decode cX12_about 24 = .ok (.bipush 12, 2) := by decide +kernel
theorem dX12_about_26 : decode cX12_about 26 = .ok (.iload_n 1, 1) := by decide +kernel
theorem dX12_about_27 : decode cX12_about 27 = .ok (.imul, 1) := by decide +kernel
theorem dX12_about_28 : decode cX12_about 28 = .ok (.iadd, 1) := by decide +kernel
theorem dX12_about_29 : decode cX12_about 29 = .ok (.istore_n 3, 1) := by decide +kernel
theorem dX12_about_30 : decode cX12_about 30 = .ok (.iconst 0, 1) := by decide +kernel
theorem dX12_about_31 : decode cX12_about 31 = .ok (.istore 4, 2) := by decide +kernel
theorem dX12_about_33 : decode cX12_about 33 = .ok (.iconst 0, 1) := by decide +kernel
theorem dX12_about_34 : decode cX12_about 34 = .ok (.istore 5, 2) := by decide +kernel
theorem dX12_about_36 : decode cX12_about 36 = .ok (.iload 5, 2) := by decide +kernel
theorem dX12_about_38 : decode cX12_about 38 = .ok (.iconst 5, 1) := by decide +kernel
theorem dX12_about_39 : decode cX12_about 39 = .ok (.if_icmp .ge 26, 3) := by decide +kernel
theorem dX12_about_42 : decode cX12_about 42 = .ok (.iload 4, 2) := by decide +kernel
theorem dX12_about_44 : decode cX12_about 44 = .ok (.aload_n 0, 1) := by decide +kernel
theorem dX12_about_45 : decode cX12_about 45 = .ok (.getfield 7, 3) := by decide +kernel
theorem dX12_about_48 : decode cX12_about 48 = .ok (.iload_n 3, 1) := by decide +kernel
theorem dX12_about_49 : decode cX12_about 49 = .ok (.bipush 6, 2) := by decide +kernel
theorem dX12_about_51 : decode cX12_about 51 = .ok (.iadd, 1) := by decide +kernel
theorem dX12_about_52 : decode cX12_about 52 = .ok (.iload 5, 2) := by decide +kernel
theorem dX12_about_54 : decode cX12_about 54 = .ok (.iadd, 1) := by decide +kernel
theorem dX12_about_55 : decode cX12_about 55 = .ok (.iaload, 1) := by decide +kernel
theorem dX12_about_56 : decode cX12_about 56 = .ok (.iadd, 1) := by decide +kernel
theorem dX12_about_57 : decode cX12_about 57 = .ok (.istore 4, 2) := by decide +kernel
theorem dX12_about_59 : decode cX12_about 59 = .ok (.iinc 5 1, 3) := by decide +kernel
theorem dX12_about_62 : decode cX12_about 62 = .ok (.goto (-26), 3) := by decide +kernel
theorem dX12_about_65 : decode cX12_about 65 = .ok (.iload_n 2, 1) := by decide +kernel
theorem dX12_about_66 : decode cX12_about 66 = .ok (.bipush 6, 2) := by decide +kernel
theorem dX12_about_68 : decode cX12_about 68 = .ok (.if_icmp .ne 8, 3) := by decide +kernel
theorem dX12_about_71 : decode cX12_about 71 = .ok (.iload 4, 2) := by decide +kernel
theorem dX12_about_73 : decode cX12_about 73 = .ok (.goto 11, 3) := by decide +kernel
theorem dX12_about_76 : decode cX12_about 76 = .ok (.aload_n 0, 1) := by decide +kernel
theorem dX12_about_77 : decode cX12_about 77 = .ok (.getfield 7, 3) := by decide +kernel
theorem dX12_about_80 : decode cX12_about 80 = .ok (.iload_n 3, 1) := by decide +kernel
theorem dX12_about_81 : decode cX12_about 81 = .ok (.iload_n 2, 1) := by decide +kernel
theorem dX12_about_82 : decode cX12_about 82 = .ok (.iadd, 1) := by decide +kernel
theorem dX12_about_83 : decode cX12_about 83 = .ok (.iaload, 1) := by decide +kernel
theorem dX12_about_84 : decode cX12_about 84 = .ok (.ireturn, 1) := by decide +kernel
theorem dX12_owes_0 : decode cX12_owes 0 = .ok (.aload_n 0, 1) := by decide +kernel
theorem dX12_owes_1 : decode cX12_owes 1 = .ok (.iload_n 1, 1) := by decide +kernel
theorem dX12_owes_2 : decode cX12_owes 2 = .ok (.invokevirtual 235, 3) := by decide +kernel
theorem dX12_owes_5 : decode cX12_owes 5 = .ok (.ifCond .eq 20, 3) := by decide +kernel
theorem dX12_owes_8 : decode cX12_owes 8 = .ok (.aload_n 0, 1) := by decide +kernel
theorem dX12_owes_9 : decode cX12_owes 9 = .ok (.iload_n 2, 1) := by decide +kernel
theorem dX12_owes_10 : decode cX12_owes 10 = .ok (.invokevirtual 78, 3) := by decide +kernel
theorem dX12_owes_13 : decode cX12_owes 13 = .ok (.ifCond .eq 12, 3) := by decide +kernel
theorem dX12_owes_16 : decode cX12_owes 16 = .ok (.iload_n 3, 1) := by decide +kernel
theorem dX12_owes_17 : decode cX12_owes 17 = .ok (.iconst 0, 1) := by decide +kernel
theorem dX12_owes_18 : decode cX12_owes 18 = .ok (.iconst 1, 1) := by decide +kernel
theorem dX12_owes_19 : decode cX12_owes 19 = .ok (.invokestatic 68, 3) := by decide +kernel
theorem dX12_owes_22 : decode cX12_owes 22 = .ok (.ifCond .ne 6, 3) := by decide +kernel
theorem dX12_owes_25 : decode cX12_owes 25 = .ok (.ldc 72, 2) := by decide +kernel
theorem dX12_owes_27 : decode cX12_owes 27 = .ok (.ireturn, 1) := by decide +kernel
theorem dX12_owes_28 : decode cX12_owes 28 = .ok (.sipush 1630, 3) := by decide +kernel
theorem dX12_owes_31 : decode cX12_owes 31 = .ok (.bipush 12, 2) := by decide +kernel
theorem dX12_owes_33 : decode cX12_owes 33 = .ok (.iload_n 1, 1) := by decide +kernel
theorem dX12_owes_34 : decode cX12_owes 34 = .ok (.imul, 1) := by decide +kernel
theorem dX12_owes_35 : decode cX12_owes 35 = .ok (.iadd, 1) := by decide +kernel
theorem dX12_owes_36 : decode cX12_owes 36 = .ok (.istore 4, 2) := by decide +kernel
theorem dX12_owes_38 : decode cX12_owes 38 = .ok (.iconst 0, 1) := by decide +kernel
theorem dX12_owes_39 : decode cX12_owes 39 = .ok (.aload_n 0, 1) := by decide +kernel
theorem dX12_owes_40 : decode cX12_owes 40 = .ok (.getfield 7, 3) := by decide +kernel
theorem dX12_owes_43 : decode cX12_owes 43 = .ok (.iconst 0, 1) := by decide +kernel
theorem dX12_owes_44 : decode cX12_owes 44 = .ok (.iaload, 1) := by decide +kernel
theorem dX12_owes_45 : decode cX12_owes 45 = .ok (.aload_n 0, 1) := by decide +kernel
theorem dX12_owes_46 : decode cX12_owes 46 = .ok (.getfield 7, 3) := by decide +kernel
theorem dX12_owes_49 : decode cX12_owes 49 = .ok (.iload 4, 2) := by decide +kernel
theorem dX12_owes_51 : decode cX12_owes 51 = .ok (.iconst 1, 1) := by decide +kernel
theorem dX12_owes_52 : decode cX12_owes 52 = .ok (.iadd, 1) := by decide +kernel
theorem dX12_owes_53 : decode cX12_owes 53 = .ok (.iaload, 1) := by decide +kernel
theorem dX12_owes_54 : decode cX12_owes 54 = .ok (.isub, 1) := by decide +kernel
theorem dX12_owes_55 : decode cX12_owes 55 = .ok (.aload_n 0, 1) := by decide +kernel
theorem dX12_owes_56 : decode cX12_owes 56 = .ok (.getfield 7, 3) := by decide +kernel
theorem dX12_owes_59 : decode cX12_owes 59 = .ok (.iconst 3, 1) := by decide +kernel
theorem dX12_owes_60 : decode cX12_owes 60 = .ok (.iaload, 1) := by decide +kernel
theorem dX12_owes_61 : decode cX12_owes 61 = .ok (.isub, 1) := by decide +kernel
theorem dX12_owes_62 : decode cX12_owes 62 = .ok (.invokestatic 105, 3) := by decide +kernel
theorem dX12_owes_65 : decode cX12_owes 65 = .ok (.istore 5, 2) := by decide +kernel
theorem dX12_owes_67 : decode cX12_owes 67 = .ok (.iload_n 3, 1) := by decide +kernel
theorem dX12_owes_68 : decode cX12_owes 68 = .ok (.ifCond .ne 18, 3) := by decide +kernel
theorem dX12_owes_71 : decode cX12_owes 71 = .ok (.aload_n 0, 1) := by decide +kernel
theorem dX12_owes_72 : decode cX12_owes 72 = .ok (.getfield 7, 3) := by decide +kernel
theorem dX12_owes_75 : decode cX12_owes 75 = .ok (.iload 4, 2) := by decide +kernel
theorem dX12_owes_77 : decode cX12_owes 77 = .ok (.bipush 6, 2) := by decide +kernel
theorem dX12_owes_79 : decode cX12_owes 79 = .ok (.iadd, 1) := by decide +kernel
theorem dX12_owes_80 : decode cX12_owes 80 = .ok (.iload_n 2, 1) := by decide +kernel
theorem dX12_owes_81 : decode cX12_owes 81 = .ok (.iadd, 1) := by decide +kernel
theorem dX12_owes_82 : decode cX12_owes 82 = .ok (.iaload, 1) := by decide +kernel
theorem dX12_owes_83 : decode cX12_owes 83 = .ok (.goto 33, 3) := by decide +kernel
theorem dX12_owes_86 : decode cX12_owes 86 = .ok (.aload_n 0, 1) := by decide +kernel
theorem dX12_owes_87 : decode cX12_owes 87 = .ok (.getfield 7, 3) := by decide +kernel
theorem dX12_owes_90 : decode cX12_owes 90 = .ok (.iload 4, 2) := by decide +kernel
theorem dX12_owes_92 : decode cX12_owes 92 = .ok (.bipush 6, 2) := by decide +kernel
theorem dX12_owes_94 : decode cX12_owes 94 = .ok (.iadd, 1) := by decide +kernel
theorem dX12_owes_95 : decode cX12_owes 95 = .ok (.iload_n 2, 1) := by decide +kernel
theorem dX12_owes_96 : decode cX12_owes 96 = .ok (.iadd, 1) := by decide +kernel
theorem dX12_owes_97 : decode cX12_owes 97 = .ok (.iaload, 1) := by decide +kernel
theorem dX12_owes_98 : decode cX12_owes 98 = .ok (.i2l, 1) := by decide +kernel
theorem dX12_owes_99 : decode cX12_owes 99 = .ok (.aload_n 0, 1) := by decide +kernel
theorem dX12_owes_100 : decode cX12_owes 100 = .ok (.getfield 7, 3) := by decide +kernel
theorem dX12_owes_103 : decode cX12_owes 103 = .ok (.iconst 2, 1) := by decide +kernel
theorem dX12_owes_104 : decode cX12_owes 104 = .ok (.iaload, 1) := by decide +kernel
theorem dX12_owes_105 : decode cX12_owes 105 = .ok (.i2l, 1) := by decide +kernel
theorem dX12_owes_106 : decode cX12_owes 106 = .ok (.lmul, 1) := by decide +kernel
theorem dX12_owes_107 : decode cX12_owes 107 = .ok (.iload 5, 2) := by decide +kernel
theorem dX12_owes_109 : decode cX12_owes 109 = .ok (.i2l, 1) := by decide +kernel
theorem dX12_owes_110 : decode cX12_owes 110 = .ok (.lmul, 1) := by decide +kernel
theorem dX12_owes_111 : decode cX12_owes 111 = .ok (.ldc2_w 238, 3) := by decide +kernel
theorem dX12_owes_114 : decode cX12_owes 114 = .ok (.ldiv, 1) := by decide +kernel
theorem dX12_owes_115 : decode cX12_owes 115 = .ok (.l2i, 1) := by decide +kernel
theorem dX12_owes_116 : decode cX12_owes 116 = .ok (.ireturn, 1) := by decide +kernel
theorem dX12_retain_0 : decode cX12_retain 0 = .ok (.aload_n 0, 1) := by decide +kernel
theorem dX12_retain_1 : decode cX12_retain 1 = .ok (.iload_n 1, 1) := by decide +kernel
theorem dX12_retain_2 : decode cX12_retain 2 = .ok (.invokevirtual 82, 3) := by decide +kernel
theorem dX12_retain_5 : decode cX12_retain 5 = .ok (.ifCond .eq 13, 3) := by decide +kernel
theorem dX12_retain_8 : decode cX12_retain 8 = .ok (.iload_n 2, 1) := by decide +kernel
theorem dX12_retain_9 : decode cX12_retain 9 = .ok (.iconst 1, 1) := by decide +kernel
theorem dX12_retain_10 : decode cX12_retain 10 = .ok (.ldc 81, 2) := by decide +kernel
theorem dX12_retain_12 : decode cX12_retain 12 = .ok (.invokestatic 68, 3) := by decide +kernel
theorem dX12_retain_15 : decode cX12_retain 15 = .ok (.ifCond .ne 6, 3) := by decide +kernel
theorem dX12_retain_18 : decode cX12_retain 18 = .ok (.ldc 72, 2) := by decide +kernel
theorem dX12_retain_20 : decode cX12_retain 20 = .ok (.ireturn, 1) := by decide +kernel
theorem dX12_retain_21 : decode cX12_retain 21 = .ok (.bipush 50, 2) := by decide +kernel
theorem dX12_retain_23 : decode cX12_retain 23 = .ok (.bipush 20, 2) := by decide +kernel
theorem dX12_retain_25 : decode cX12_retain 25 = .ok (.iload_n 1, 1) := by decide +kernel
theorem dX12_retain_26 : decode cX12_retain 26 = .ok (.imul, 1) := by decide +kernel
theorem dX12_retain_27 : decode cX12_retain 27 = .ok (.iadd, 1) := by decide +kernel
theorem dX12_retain_28 : decode cX12_retain 28 = .ok (.iconst 3, 1) := by decide +kernel
theorem dX12_retain_29 : decode cX12_retain 29 = .ok (.iadd, 1) := by decide +kernel
theorem dX12_retain_30 : decode cX12_retain 30 = .ok (.istore_n 3, 1) := by decide +kernel
theorem dX12_retain_31 : decode cX12_retain 31 = .ok (.aload_n 0, 1) := by decide +kernel
theorem dX12_retain_32 : decode cX12_retain 32 = .ok (.getfield 7, 3) := by decide +kernel
theorem dX12_retain_35 : decode cX12_retain 35 = .ok (.iload_n 3, 1) := by decide +kernel
theorem dX12_retain_36 : decode cX12_retain 36 = .ok (.iaload, 1) := by decide +kernel
theorem dX12_retain_37 : decode cX12_retain 37 = .ok (.iload_n 2, 1) := by decide +kernel
theorem dX12_retain_38 : decode cX12_retain 38 = .ok (.iadd, 1) := by decide +kernel
theorem dX12_retain_39 : decode cX12_retain 39 = .ok (.ldc 240, 2) := by decide +kernel
theorem dX12_retain_41 : decode cX12_retain 41 = .ok (.if_icmp .le 6, 3) := by decide +kernel
theorem dX12_retain_44 : decode cX12_retain 44 = .ok (.ldc 73, 2) := by decide +kernel
theorem dX12_retain_46 : decode cX12_retain 46 = .ok (.ireturn, 1) := by decide +kernel
theorem dX12_retain_47 : decode cX12_retain 47 = .ok (.aload_n 0, 1) := by decide +kernel
theorem dX12_retain_48 : decode cX12_retain 48 = .ok (.getfield 7, 3) := by decide +kernel
theorem dX12_retain_51 : decode cX12_retain 51 = .ok (.iload_n 3, 1) := by decide +kernel
theorem dX12_retain_52 : decode cX12_retain 52 = .ok (.dup2, 1) := by decide +kernel
theorem dX12_retain_53 : decode cX12_retain 53 = .ok (.iaload, 1) := by decide +kernel
theorem dX12_retain_54 : decode cX12_retain 54 = .ok (.iload_n 2, 1) := by decide +kernel
theorem dX12_retain_55 : decode cX12_retain 55 = .ok (.iadd, 1) := by decide +kernel
theorem dX12_retain_56 : decode cX12_retain 56 = .ok (.iastore, 1) := by decide +kernel
theorem dX12_retain_57 : decode cX12_retain 57 = .ok (.aload_n 0, 1) := by decide +kernel
theorem dX12_retain_58 : decode cX12_retain 58 = .ok (.getfield 7, 3) := by decide +kernel
theorem dX12_retain_61 : decode cX12_retain 61 = .ok (.iload_n 3, 1) := by decide +kernel
theorem dX12_retain_62 : decode cX12_retain 62 = .ok (.iaload, 1) := by decide +kernel
theorem dX12_retain_63 : decode cX12_retain 63 = .ok (.ireturn, 1) := by decide +kernel
theorem dX12_trust_0 : decode cX12_trust 0 = .ok (.aload_n 0, 1) := by decide +kernel
theorem dX12_trust_1 : decode cX12_trust 1 = .ok (.iload_n 1, 1) := by decide +kernel
theorem dX12_trust_2 : decode cX12_trust 2 = .ok (.invokevirtual 78, 3) := by decide +kernel
theorem dX12_trust_5 : decode cX12_trust 5 = .ok (.ifCond .eq 13, 3) := by decide +kernel
theorem dX12_trust_8 : decode cX12_trust 8 = .ok (.iload_n 2, 1) := by decide +kernel
theorem dX12_trust_9 : decode cX12_trust 9 = .ok (.iconst 0, 1) := by decide +kernel
theorem dX12_trust_10 : decode cX12_trust 10 = .ok (.ldc 81, 2) := by decide +kernel
theorem dX12_trust_12 : decode cX12_trust 12 = .ok (.invokestatic 68, 3) := by decide +kernel
theorem dX12_trust_15 : decode cX12_trust 15 = .ok (.ifCond .ne 6, 3) := by decide +kernel
theorem dX12_trust_18 : decode cX12_trust 18 = .ok (.ldc 72, 2) := by decide +kernel
theorem dX12_trust_20 : decode cX12_trust 20 = .ok (.ireturn, 1) := by decide +kernel
theorem dX12_trust_21 : decode cX12_trust 21 = .ok (.aload_n 0, 1) := by decide +kernel
theorem dX12_trust_22 : decode cX12_trust 22 = .ok (.getfield 7, 3) := by decide +kernel
theorem dX12_trust_25 : decode cX12_trust 25 = .ok (.bipush 44, 2) := by decide +kernel
theorem dX12_trust_27 : decode cX12_trust 27 = .ok (.iload_n 1, 1) := by decide +kernel
theorem dX12_trust_28 : decode cX12_trust 28 = .ok (.iadd, 1) := by decide +kernel
theorem dX12_trust_29 : decode cX12_trust 29 = .ok (.iaload, 1) := by decide +kernel
theorem dX12_trust_30 : decode cX12_trust 30 = .ok (.iload_n 2, 1) := by decide +kernel
theorem dX12_trust_31 : decode cX12_trust 31 = .ok (.iadd, 1) := by decide +kernel
theorem dX12_trust_32 : decode cX12_trust 32 = .ok (.ldc 241, 2) := by decide +kernel
theorem dX12_trust_34 : decode cX12_trust 34 = .ok (.if_icmp .le 6, 3) := by decide +kernel
theorem dX12_trust_37 : decode cX12_trust 37 = .ok (.ldc 73, 2) := by decide +kernel
theorem dX12_trust_39 : decode cX12_trust 39 = .ok (.ireturn, 1) := by decide +kernel
theorem dX12_trust_40 : decode cX12_trust 40 = .ok (.aload_n 0, 1) := by decide +kernel
theorem dX12_trust_41 : decode cX12_trust 41 = .ok (.getfield 7, 3) := by decide +kernel
theorem dX12_trust_44 : decode cX12_trust 44 = .ok (.bipush 44, 2) := by decide +kernel
theorem dX12_trust_46 : decode cX12_trust 46 = .ok (.iload_n 1, 1) := by decide +kernel
theorem dX12_trust_47 : decode cX12_trust 47 = .ok (.iadd, 1) := by decide +kernel
theorem dX12_trust_48 : decode cX12_trust 48 = .ok (.dup2, 1) := by decide +kernel
theorem dX12_trust_49 : decode cX12_trust 49 = .ok (.iaload, 1) := by decide +kernel
theorem dX12_trust_50 : decode cX12_trust 50 = .ok (.iload_n 2, 1) := by decide +kernel
theorem dX12_trust_51 : decode cX12_trust 51 = .ok (.iadd, 1) := by decide +kernel
theorem dX12_trust_52 : decode cX12_trust 52 = .ok (.iastore, 1) := by decide +kernel
theorem dX12_trust_53 : decode cX12_trust 53 = .ok (.aload_n 0, 1) := by decide +kernel
theorem dX12_trust_54 : decode cX12_trust 54 = .ok (.getfield 7, 3) := by decide +kernel
theorem dX12_trust_57 : decode cX12_trust 57 = .ok (.bipush 44, 2) := by decide +kernel
theorem dX12_trust_59 : decode cX12_trust 59 = .ok (.iload_n 1, 1) := by decide +kernel
theorem dX12_trust_60 : decode cX12_trust 60 = .ok (.iadd, 1) := by decide +kernel
theorem dX12_trust_61 : decode cX12_trust 61 = .ok (.iaload, 1) := by decide +kernel
theorem dX12_trust_62 : decode cX12_trust 62 = .ok (.ireturn, 1) := by decide +kernel
theorem dX12_draw_0 : decode cX12_draw 0 = .ok (.aload_n 0, 1) := by decide +kernel
theorem dX12_draw_1 : decode cX12_draw 1 = .ok (.iload_n 1, 1) := by decide +kernel
theorem dX12_draw_2 : decode cX12_draw 2 = .ok (.invokevirtual 235, 3) := by decide +kernel
theorem dX12_draw_5 : decode cX12_draw 5 = .ok (.ifCond .eq 11, 3) := by decide +kernel
theorem dX12_draw_8 : decode cX12_draw 8 = .ok (.aload_n 0, 1) := by decide +kernel
theorem dX12_draw_9 : decode cX12_draw 9 = .ok (.iload_n 2, 1) := by decide +kernel
theorem dX12_draw_10 : decode cX12_draw 10 = .ok (.invokevirtual 78, 3) := by decide +kernel
theorem dX12_draw_13 : decode cX12_draw 13 = .ok (.ifCond .ne 6, 3) := by decide +kernel
theorem dX12_draw_16 : decode cX12_draw 16 = .ok (.ldc 72, 2) := by decide +kernel
theorem dX12_draw_18 : decode cX12_draw 18 = .ok (.ireturn, 1) := by decide +kernel
theorem dX12_draw_19 : decode cX12_draw 19 = .ok (.sipush 1630, 3) := by decide +kernel
theorem dX12_draw_22 : decode cX12_draw 22 = .ok (.bipush 12, 2) := by decide +kernel
theorem dX12_draw_24 : decode cX12_draw 24 = .ok (.iload_n 1, 1) := by decide +kernel
theorem dX12_draw_25 : decode cX12_draw 25 = .ok (.imul, 1) := by decide +kernel
theorem dX12_draw_26 : decode cX12_draw 26 = .ok (.iadd, 1) := by decide +kernel
theorem dX12_draw_27 : decode cX12_draw 27 = .ok (.bipush 6, 2) := by decide +kernel
theorem dX12_draw_29 : decode cX12_draw 29 = .ok (.iadd, 1) := by decide +kernel
theorem dX12_draw_30 : decode cX12_draw 30 = .ok (.iload_n 2, 1) := by decide +kernel
theorem dX12_draw_31 : decode cX12_draw 31 = .ok (.iadd, 1) := by decide +kernel
theorem dX12_draw_32 : decode cX12_draw 32 = .ok (.istore_n 3, 1) := by decide +kernel
theorem dX12_draw_33 : decode cX12_draw 33 = .ok (.aload_n 0, 1) := by decide +kernel
theorem dX12_draw_34 : decode cX12_draw 34 = .ok (.getfield 7, 3) := by decide +kernel
theorem dX12_draw_37 : decode cX12_draw 37 = .ok (.iload_n 3, 1) := by decide +kernel
theorem dX12_draw_38 : decode cX12_draw 38 = .ok (.iaload, 1) := by decide +kernel
theorem dX12_draw_39 : decode cX12_draw 39 = .ok (.aload_n 0, 1) := by decide +kernel
theorem dX12_draw_40 : decode cX12_draw 40 = .ok (.getfield 7, 3) := by decide +kernel
theorem dX12_draw_43 : decode cX12_draw 43 = .ok (.bipush 44, 2) := by decide +kernel
theorem dX12_draw_45 : decode cX12_draw 45 = .ok (.iload_n 2, 1) := by decide +kernel
theorem dX12_draw_46 : decode cX12_draw 46 = .ok (.iadd, 1) := by decide +kernel
theorem dX12_draw_47 : decode cX12_draw 47 = .ok (.iaload, 1) := by decide +kernel
theorem dX12_draw_48 : decode cX12_draw 48 = .ok (.invokestatic 218, 3) := by decide +kernel
theorem dX12_draw_51 : decode cX12_draw 51 = .ok (.istore 4, 2) := by decide +kernel
theorem dX12_draw_53 : decode cX12_draw 53 = .ok (.aload_n 0, 1) := by decide +kernel
theorem dX12_draw_54 : decode cX12_draw 54 = .ok (.getfield 7, 3) := by decide +kernel
theorem dX12_draw_57 : decode cX12_draw 57 = .ok (.iload_n 3, 1) := by decide +kernel
theorem dX12_draw_58 : decode cX12_draw 58 = .ok (.dup2, 1) := by decide +kernel
theorem dX12_draw_59 : decode cX12_draw 59 = .ok (.iaload, 1) := by decide +kernel
theorem dX12_draw_60 : decode cX12_draw 60 = .ok (.iload 4, 2) := by decide +kernel
theorem dX12_draw_62 : decode cX12_draw 62 = .ok (.isub, 1) := by decide +kernel
theorem dX12_draw_63 : decode cX12_draw 63 = .ok (.iastore, 1) := by decide +kernel
theorem dX12_draw_64 : decode cX12_draw 64 = .ok (.aload_n 0, 1) := by decide +kernel
theorem dX12_draw_65 : decode cX12_draw 65 = .ok (.getfield 7, 3) := by decide +kernel
theorem dX12_draw_68 : decode cX12_draw 68 = .ok (.bipush 44, 2) := by decide +kernel
theorem dX12_draw_70 : decode cX12_draw 70 = .ok (.iload_n 2, 1) := by decide +kernel
theorem dX12_draw_71 : decode cX12_draw 71 = .ok (.iadd, 1) := by decide +kernel
theorem dX12_draw_72 : decode cX12_draw 72 = .ok (.dup2, 1) := by decide +kernel
theorem dX12_draw_73 : decode cX12_draw 73 = .ok (.iaload, 1) := by decide +kernel
theorem dX12_draw_74 : decode cX12_draw 74 = .ok (.iload 4, 2) := by decide +kernel
theorem dX12_draw_76 : decode cX12_draw 76 = .ok (.isub, 1) := by decide +kernel
theorem dX12_draw_77 : decode cX12_draw 77 = .ok (.iastore, 1) := by decide +kernel
theorem dX12_draw_78 : decode cX12_draw 78 = .ok (.iload 4, 2) := by decide +kernel
theorem dX12_draw_80 : decode cX12_draw 80 = .ok (.ireturn, 1) := by decide +kernel
theorem dX12_isPayer_0 : decode cX12_isPayer 0 = .ok (.iconst 0, 1) := by decide +kernel
theorem dX12_isPayer_1 : decode cX12_isPayer 1 = .ok (.istore_n 3, 1) := by decide +kernel
theorem dX12_isPayer_2 : decode cX12_isPayer 2 = .ok (.iconst 0, 1) := by decide +kernel
theorem dX12_isPayer_3 : decode cX12_isPayer 3 = .ok (.istore 4, 2) := by decide +kernel
theorem dX12_isPayer_5 : decode cX12_isPayer 5 = .ok (.iload 4, 2) := by decide +kernel
theorem dX12_isPayer_7 : decode cX12_isPayer 7 = .ok (.aload_n 0, 1) := by decide +kernel
theorem dX12_isPayer_8 : decode cX12_isPayer 8 = .ok (.getfield 7, 3) := by decide +kernel
theorem dX12_isPayer_11 : decode cX12_isPayer 11 = .ok (.bipush 50, 2) := by decide +kernel
theorem dX12_isPayer_13 : decode cX12_isPayer 13 = .ok (.bipush 20, 2) := by decide +kernel
theorem dX12_isPayer_15 : decode cX12_isPayer 15 = .ok (.iload_n 1, 1) := by decide +kernel
theorem dX12_isPayer_16 : decode cX12_isPayer 16 = .ok (.imul, 1) := by decide +kernel
theorem dX12_isPayer_17 : decode cX12_isPayer 17 = .ok (.iadd, 1) := by decide +kernel
theorem dX12_isPayer_18 : decode cX12_isPayer 18 = .ok (.bipush 10, 2) := by decide +kernel
theorem dX12_isPayer_20 : decode cX12_isPayer 20 = .ok (.iadd, 1) := by decide +kernel
theorem dX12_isPayer_21 : decode cX12_isPayer 21 = .ok (.iaload, 1) := by decide +kernel
theorem dX12_isPayer_22 : decode cX12_isPayer 22 = .ok (.if_icmp .ge 41, 3) := by decide +kernel
theorem dX12_isPayer_25 : decode cX12_isPayer 25 = .ok (.iload_n 3, 1) := by decide +kernel
theorem dX12_isPayer_26 : decode cX12_isPayer 26 = .ok (.ifCond .ne 25, 3) := by decide +kernel
theorem dX12_isPayer_29 : decode cX12_isPayer 29 = .ok (.aload_n 0, 1) := by decide +kernel
theorem dX12_isPayer_30 : decode cX12_isPayer 30 = .ok (.getfield 7, 3) := by decide +kernel
theorem dX12_isPayer_33 : decode cX12_isPayer 33 = .ok (.bipush 50, 2) := by decide +kernel
theorem dX12_isPayer_35 : decode cX12_isPayer 35 = .ok (.bipush 20, 2) := by decide +kernel
theorem dX12_isPayer_37 : decode cX12_isPayer 37 = .ok (.iload_n 1, 1) := by decide +kernel
theorem dX12_isPayer_38 : decode cX12_isPayer 38 = .ok (.imul, 1) := by decide +kernel
theorem dX12_isPayer_39 : decode cX12_isPayer 39 = .ok (.iadd, 1) := by decide +kernel
theorem dX12_isPayer_40 : decode cX12_isPayer 40 = .ok (.bipush 11, 2) := by decide +kernel
theorem dX12_isPayer_42 : decode cX12_isPayer 42 = .ok (.iadd, 1) := by decide +kernel
theorem dX12_isPayer_43 : decode cX12_isPayer 43 = .ok (.iload 4, 2) := by decide +kernel
theorem dX12_isPayer_45 : decode cX12_isPayer 45 = .ok (.iadd, 1) := by decide +kernel
theorem dX12_isPayer_46 : decode cX12_isPayer 46 = .ok (.iaload, 1) := by decide +kernel
theorem dX12_isPayer_47 : decode cX12_isPayer 47 = .ok (.iload_n 2, 1) := by decide +kernel
theorem dX12_isPayer_48 : decode cX12_isPayer 48 = .ok (.if_icmp .ne 7, 3) := by decide +kernel
theorem dX12_isPayer_51 : decode cX12_isPayer 51 = .ok (.iconst 1, 1) := by decide +kernel
theorem dX12_isPayer_52 : decode cX12_isPayer 52 = .ok (.goto 4, 3) := by decide +kernel
theorem dX12_isPayer_55 : decode cX12_isPayer 55 = .ok (.iconst 0, 1) := by decide +kernel
theorem dX12_isPayer_56 : decode cX12_isPayer 56 = .ok (.istore_n 3, 1) := by decide +kernel
theorem dX12_isPayer_57 : decode cX12_isPayer 57 = .ok (.iinc 4 1, 3) := by decide +kernel
theorem dX12_isPayer_60 : decode cX12_isPayer 60 = .ok (.goto (-55), 3) := by decide +kernel
theorem dX12_isPayer_63 : decode cX12_isPayer 63 = .ok (.iload_n 3, 1) := by decide +kernel
theorem dX12_isPayer_64 : decode cX12_isPayer 64 = .ok (.ireturn, 1) := by decide +kernel
theorem dX12_pay_0 : decode cX12_pay 0 = .ok (.aload_n 0, 1) := by decide +kernel
theorem dX12_pay_1 : decode cX12_pay 1 = .ok (.iload_n 1, 1) := by decide +kernel
theorem dX12_pay_2 : decode cX12_pay 2 = .ok (.invokevirtual 235, 3) := by decide +kernel
theorem dX12_pay_5 : decode cX12_pay 5 = .ok (.ifCond .eq 21, 3) := by decide +kernel
theorem dX12_pay_8 : decode cX12_pay 8 = .ok (.aload_n 0, 1) := by decide +kernel
theorem dX12_pay_9 : decode cX12_pay 9 = .ok (.iload_n 2, 1) := by decide +kernel
theorem dX12_pay_10 : decode cX12_pay 10 = .ok (.invokevirtual 78, 3) := by decide +kernel
theorem dX12_pay_13 : decode cX12_pay 13 = .ok (.ifCond .eq 13, 3) := by decide +kernel
theorem dX12_pay_16 : decode cX12_pay 16 = .ok (.iload_n 3, 1) := by decide +kernel
theorem dX12_pay_17 : decode cX12_pay 17 = .ok (.iconst 1, 1) := by decide +kernel
theorem dX12_pay_18 : decode cX12_pay 18 = .ok (.ldc 81, 2) := by decide +kernel
theorem dX12_pay_20 : decode cX12_pay 20 = .ok (.invokestatic 68, 3) := by decide +kernel
theorem dX12_pay_23 : decode cX12_pay 23 = .ok (.ifCond .ne 6, 3) := by decide +kernel
theorem dX12_pay_26 : decode cX12_pay 26 = .ok (.ldc 72, 2) := by decide +kernel
theorem dX12_pay_28 : decode cX12_pay 28 = .ok (.ireturn, 1) := by decide +kernel
theorem dX12_pay_29 : decode cX12_pay 29 = .ok (.aload_n 0, 1) := by decide +kernel
theorem dX12_pay_30 : decode cX12_pay 30 = .ok (.aload_n 0, 1) := by decide +kernel
theorem dX12_pay_31 : decode cX12_pay 31 = .ok (.getfield 7, 3) := by decide +kernel
theorem dX12_pay_34 : decode cX12_pay 34 = .ok (.sipush 1630, 3) := by decide +kernel
theorem dX12_pay_37 : decode cX12_pay 37 = .ok (.bipush 12, 2) := by decide +kernel
theorem dX12_pay_39 : decode cX12_pay 39 = .ok (.iload_n 1, 1) := by decide +kernel
theorem dX12_pay_40 : decode cX12_pay 40 = .ok (.imul, 1) := by decide +kernel
theorem dX12_pay_41 : decode cX12_pay 41 = .ok (.iadd, 1) := by decide +kernel
theorem dX12_pay_42 : decode cX12_pay 42 = .ok (.iaload, 1) := by decide +kernel
theorem dX12_pay_43 : decode cX12_pay 43 = .ok (.iload_n 2, 1) := by decide +kernel
theorem dX12_pay_44 : decode cX12_pay 44 = .ok (.invokevirtual 242, 3) := by decide +kernel
theorem dX12_pay_47 : decode cX12_pay 47 = .ok (.ifCond .ne 6, 3) := by decide +kernel
theorem dX12_pay_50 : decode cX12_pay 50 = .ok (.ldc 91, 2) := by decide +kernel
theorem dX12_pay_52 : decode cX12_pay 52 = .ok (.ireturn, 1) := by decide +kernel
theorem dX12_pay_53 : decode cX12_pay 53 = .ok (.sipush 1630, 3) := by decide +kernel
theorem dX12_pay_56 : decode cX12_pay 56 = .ok (.bipush 12, 2) := by decide +kernel
theorem dX12_pay_58 : decode cX12_pay 58 = .ok (.iload_n 1, 1) := by decide +kernel
theorem dX12_pay_59 : decode cX12_pay 59 = .ok (.imul, 1) := by decide +kernel
theorem dX12_pay_60 : decode cX12_pay 60 = .ok (.iadd, 1) := by decide +kernel
theorem dX12_pay_61 : decode cX12_pay 61 = .ok (.bipush 6, 2) := by decide +kernel
theorem dX12_pay_63 : decode cX12_pay 63 = .ok (.iadd, 1) := by decide +kernel
theorem dX12_pay_64 : decode cX12_pay 64 = .ok (.iload_n 2, 1) := by decide +kernel
theorem dX12_pay_65 : decode cX12_pay 65 = .ok (.iadd, 1) := by decide +kernel
theorem dX12_pay_66 : decode cX12_pay 66 = .ok (.istore 4, 2) := by decide +kernel
theorem dX12_pay_68 : decode cX12_pay 68 = .ok (.aload_n 0, 1) := by decide +kernel
theorem dX12_pay_69 : decode cX12_pay 69 = .ok (.getfield 7, 3) := by decide +kernel
theorem dX12_pay_72 : decode cX12_pay 72 = .ok (.iload 4, 2) := by decide +kernel
theorem dX12_pay_74 : decode cX12_pay 74 = .ok (.iaload, 1) := by decide +kernel
theorem dX12_pay_75 : decode cX12_pay 75 = .ok (.iload_n 3, 1) := by decide +kernel
theorem dX12_pay_76 : decode cX12_pay 76 = .ok (.invokestatic 218, 3) := by decide +kernel
theorem dX12_pay_79 : decode cX12_pay 79 = .ok (.istore 5, 2) := by decide +kernel
theorem dX12_pay_81 : decode cX12_pay 81 = .ok (.aload_n 0, 1) := by decide +kernel
theorem dX12_pay_82 : decode cX12_pay 82 = .ok (.getfield 7, 3) := by decide +kernel
theorem dX12_pay_85 : decode cX12_pay 85 = .ok (.bipush 44, 2) := by decide +kernel
theorem dX12_pay_87 : decode cX12_pay 87 = .ok (.iload_n 2, 1) := by decide +kernel
theorem dX12_pay_88 : decode cX12_pay 88 = .ok (.iadd, 1) := by decide +kernel
theorem dX12_pay_89 : decode cX12_pay 89 = .ok (.iaload, 1) := by decide +kernel
theorem dX12_pay_90 : decode cX12_pay 90 = .ok (.iload_n 3, 1) := by decide +kernel
theorem dX12_pay_91 : decode cX12_pay 91 = .ok (.iadd, 1) := by decide +kernel
theorem dX12_pay_92 : decode cX12_pay 92 = .ok (.iload 5, 2) := by decide +kernel
theorem dX12_pay_94 : decode cX12_pay 94 = .ok (.isub, 1) := by decide +kernel
theorem dX12_pay_95 : decode cX12_pay 95 = .ok (.ldc 241, 2) := by decide +kernel
theorem dX12_pay_97 : decode cX12_pay 97 = .ok (.if_icmp .le 6, 3) := by decide +kernel
theorem dX12_pay_100 : decode cX12_pay 100 = .ok (.ldc 73, 2) := by decide +kernel
theorem dX12_pay_102 : decode cX12_pay 102 = .ok (.ireturn, 1) := by decide +kernel
theorem dX12_pay_103 : decode cX12_pay 103 = .ok (.aload_n 0, 1) := by decide +kernel
theorem dX12_pay_104 : decode cX12_pay 104 = .ok (.getfield 7, 3) := by decide +kernel
theorem dX12_pay_107 : decode cX12_pay 107 = .ok (.iload 4, 2) := by decide +kernel
theorem dX12_pay_109 : decode cX12_pay 109 = .ok (.dup2, 1) := by decide +kernel
theorem dX12_pay_110 : decode cX12_pay 110 = .ok (.iaload, 1) := by decide +kernel
theorem dX12_pay_111 : decode cX12_pay 111 = .ok (.iload 5, 2) := by decide +kernel
theorem dX12_pay_113 : decode cX12_pay 113 = .ok (.isub, 1) := by decide +kernel
theorem dX12_pay_114 : decode cX12_pay 114 = .ok (.iastore, 1) := by decide +kernel
theorem dX12_pay_115 : decode cX12_pay 115 = .ok (.aload_n 0, 1) := by decide +kernel
theorem dX12_pay_116 : decode cX12_pay 116 = .ok (.getfield 7, 3) := by decide +kernel
theorem dX12_pay_119 : decode cX12_pay 119 = .ok (.bipush 44, 2) := by decide +kernel
theorem dX12_pay_121 : decode cX12_pay 121 = .ok (.iload_n 2, 1) := by decide +kernel
theorem dX12_pay_122 : decode cX12_pay 122 = .ok (.iadd, 1) := by decide +kernel
theorem dX12_pay_123 : decode cX12_pay 123 = .ok (.dup2, 1) := by decide +kernel
theorem dX12_pay_124 : decode cX12_pay 124 = .ok (.iaload, 1) := by decide +kernel
theorem dX12_pay_125 : decode cX12_pay 125 = .ok (.iload_n 3, 1) := by decide +kernel
theorem dX12_pay_126 : decode cX12_pay 126 = .ok (.iload 5, 2) := by decide +kernel
theorem dX12_pay_128 : decode cX12_pay 128 = .ok (.isub, 1) := by decide +kernel
theorem dX12_pay_129 : decode cX12_pay 129 = .ok (.iadd, 1) := by decide +kernel
theorem dX12_pay_130 : decode cX12_pay 130 = .ok (.iastore, 1) := by decide +kernel
theorem dX12_pay_131 : decode cX12_pay 131 = .ok (.iload_n 3, 1) := by decide +kernel
theorem dX12_pay_132 : decode cX12_pay 132 = .ok (.iload 5, 2) := by decide +kernel
theorem dX12_pay_134 : decode cX12_pay 134 = .ok (.isub, 1) := by decide +kernel
theorem dX12_pay_135 : decode cX12_pay 135 = .ok (.ireturn, 1) := by decide +kernel
theorem dX12_middleOf_0 : decode cX12_middleOf 0 = .ok (.sipush 250, 3) := by decide +kernel
theorem dX12_middleOf_3 : decode cX12_middleOf 3 = .ok (.bipush 12, 2) := by decide +kernel
theorem dX12_middleOf_5 : decode cX12_middleOf 5 = .ok (.iload_n 1, 1) := by decide +kernel
theorem dX12_middleOf_6 : decode cX12_middleOf 6 = .ok (.imul, 1) := by decide +kernel
theorem dX12_middleOf_7 : decode cX12_middleOf 7 = .ok (.iadd, 1) := by decide +kernel
theorem dX12_middleOf_8 : decode cX12_middleOf 8 = .ok (.istore_n 2, 1) := by decide +kernel
theorem dX12_middleOf_9 : decode cX12_middleOf 9 = .ok (.iconst 0, 1) := by decide +kernel
theorem dX12_middleOf_10 : decode cX12_middleOf 10 = .ok (.istore_n 3, 1) := by decide +kernel
theorem dX12_middleOf_11 : decode cX12_middleOf 11 = .ok (.iconst 0, 1) := by decide +kernel
theorem dX12_middleOf_12 : decode cX12_middleOf 12 = .ok (.istore 4, 2) := by decide +kernel
theorem dX12_middleOf_14 : decode cX12_middleOf 14 = .ok (.iload 4, 2) := by decide +kernel
theorem dX12_middleOf_16 : decode cX12_middleOf 16 = .ok (.aload_n 0, 1) := by decide +kernel
theorem dX12_middleOf_17 : decode cX12_middleOf 17 = .ok (.getfield 7, 3) := by decide +kernel
theorem dX12_middleOf_20 : decode cX12_middleOf 20 = .ok (.bipush 7, 2) := by decide +kernel
theorem dX12_middleOf_22 : decode cX12_middleOf 22 = .ok (.iaload, 1) := by decide +kernel
theorem dX12_middleOf_23 : decode cX12_middleOf 23 = .ok (.if_icmp .ge 221, 3) := by decide +kernel
theorem dX12_middleOf_26 : decode cX12_middleOf 26 = .ok (.sipush 250, 3) := by decide +kernel
theorem dX12_middleOf_29 : decode cX12_middleOf 29 = .ok (.bipush 12, 2) := by decide +kernel
theorem dX12_middleOf_31 : decode cX12_middleOf 31 = .ok (.iload 4, 2) := by decide +kernel
theorem dX12_middleOf_33 : decode cX12_middleOf 33 = .ok (.imul, 1) := by decide +kernel
theorem dX12_middleOf_34 : decode cX12_middleOf 34 = .ok (.iadd, 1) := by decide +kernel
theorem dX12_middleOf_35 : decode cX12_middleOf 35 = .ok (.istore 5, 2) := by decide +kernel
theorem dX12_middleOf_37 : decode cX12_middleOf 37 = .ok (.aload_n 0, 1) := by decide +kernel
theorem dX12_middleOf_38 : decode cX12_middleOf 38 = .ok (.getfield 7, 3) := by decide +kernel
theorem dX12_middleOf_41 : decode cX12_middleOf 41 = .ok (.iload 5, 2) := by decide +kernel
theorem dX12_middleOf_43 : decode cX12_middleOf 43 = .ok (.bipush 8, 2) := by decide +kernel
theorem dX12_middleOf_45 : decode cX12_middleOf 45 = .ok (.iadd, 1) := by decide +kernel
theorem dX12_middleOf_46 : decode cX12_middleOf 46 = .ok (.iaload, 1) := by decide +kernel
theorem dX12_middleOf_47 : decode cX12_middleOf 47 = .ok (.iconst (-1), 1) := by decide +kernel
theorem dX12_middleOf_48 : decode cX12_middleOf 48 = .ok (.if_icmp .eq 99, 3) := by decide +kernel
theorem dX12_middleOf_51 : decode cX12_middleOf 51 = .ok (.aload_n 0, 1) := by decide +kernel
theorem dX12_middleOf_52 : decode cX12_middleOf 52 = .ok (.getfield 7, 3) := by decide +kernel
theorem dX12_middleOf_55 : decode cX12_middleOf 55 = .ok (.iload 5, 2) := by decide +kernel
theorem dX12_middleOf_57 : decode cX12_middleOf 57 = .ok (.bipush 8, 2) := by decide +kernel
theorem dX12_middleOf_59 : decode cX12_middleOf 59 = .ok (.iadd, 1) := by decide +kernel
theorem dX12_middleOf_60 : decode cX12_middleOf 60 = .ok (.iaload, 1) := by decide +kernel
theorem dX12_middleOf_61 : decode cX12_middleOf 61 = .ok (.aload_n 0, 1) := by decide +kernel
theorem dX12_middleOf_62 : decode cX12_middleOf 62 = .ok (.getfield 7, 3) := by decide +kernel
theorem dX12_middleOf_65 : decode cX12_middleOf 65 = .ok (.iload_n 2, 1) := by decide +kernel
theorem dX12_middleOf_66 : decode cX12_middleOf 66 = .ok (.bipush 8, 2) := by decide +kernel
theorem dX12_middleOf_68 : decode cX12_middleOf 68 = .ok (.iadd, 1) := by decide +kernel
theorem dX12_middleOf_69 : decode cX12_middleOf 69 = .ok (.iaload, 1) := by decide +kernel
theorem dX12_middleOf_70 : decode cX12_middleOf 70 = .ok (.if_icmp .eq 77, 3) := by decide +kernel
theorem dX12_middleOf_73 : decode cX12_middleOf 73 = .ok (.aload_n 0, 1) := by decide +kernel
theorem dX12_middleOf_74 : decode cX12_middleOf 74 = .ok (.getfield 7, 3) := by decide +kernel
theorem dX12_middleOf_77 : decode cX12_middleOf 77 = .ok (.iload 5, 2) := by decide +kernel
theorem dX12_middleOf_79 : decode cX12_middleOf 79 = .ok (.iconst 5, 1) := by decide +kernel
theorem dX12_middleOf_80 : decode cX12_middleOf 80 = .ok (.iadd, 1) := by decide +kernel
theorem dX12_middleOf_81 : decode cX12_middleOf 81 = .ok (.iaload, 1) := by decide +kernel
theorem dX12_middleOf_82 : decode cX12_middleOf 82 = .ok (.aload_n 0, 1) := by decide +kernel
theorem dX12_middleOf_83 : decode cX12_middleOf 83 = .ok (.getfield 7, 3) := by decide +kernel
theorem dX12_middleOf_86 : decode cX12_middleOf 86 = .ok (.iload_n 2, 1) := by decide +kernel
theorem dX12_middleOf_87 : decode cX12_middleOf 87 = .ok (.iconst 5, 1) := by decide +kernel
theorem dX12_middleOf_88 : decode cX12_middleOf 88 = .ok (.iadd, 1) := by decide +kernel
theorem dX12_middleOf_89 : decode cX12_middleOf 89 = .ok (.iaload, 1) := by decide +kernel
theorem dX12_middleOf_90 : decode cX12_middleOf 90 = .ok (.if_icmp .ne 57, 3) := by decide +kernel
theorem dX12_middleOf_93 : decode cX12_middleOf 93 = .ok (.aload_n 0, 1) := by decide +kernel
theorem dX12_middleOf_94 : decode cX12_middleOf 94 = .ok (.getfield 7, 3) := by decide +kernel
theorem dX12_middleOf_97 : decode cX12_middleOf 97 = .ok (.bipush 20, 2) := by decide +kernel
theorem dX12_middleOf_99 : decode cX12_middleOf 99 = .ok (.iconst 3, 1) := by decide +kernel
theorem dX12_middleOf_100 : decode cX12_middleOf 100 = .ok (.aload_n 0, 1) := by decide +kernel
theorem dX12_middleOf_101 : decode cX12_middleOf 101 = .ok (.getfield 7, 3) := by decide +kernel
theorem dX12_middleOf_104 : decode cX12_middleOf 104 = .ok (.iload 5, 2) := by decide +kernel
theorem dX12_middleOf_106 : decode cX12_middleOf 106 = .ok (.iaload, 1) := by decide +kernel
theorem dX12_middleOf_107 : decode cX12_middleOf 107 = .ok (.imul, 1) := by decide +kernel
theorem dX12_middleOf_108 : decode cX12_middleOf 108 = .ok (.iadd, 1) := by decide +kernel
theorem dX12_middleOf_109 : decode cX12_middleOf 109 = .ok (.iaload, 1) := by decide +kernel
theorem dX12_middleOf_110 : decode cX12_middleOf 110 = .ok (.aload_n 0, 1) := by decide +kernel
theorem dX12_middleOf_111 : decode cX12_middleOf 111 = .ok (.getfield 7, 3) := by decide +kernel
theorem dX12_middleOf_114 : decode cX12_middleOf 114 = .ok (.bipush 20, 2) := by decide +kernel
theorem dX12_middleOf_116 : decode cX12_middleOf 116 = .ok (.iconst 3, 1) := by decide +kernel
theorem dX12_middleOf_117 : decode cX12_middleOf 117 = .ok (.aload_n 0, 1) := by decide +kernel
theorem dX12_middleOf_118 : decode cX12_middleOf 118 = .ok (.getfield 7, 3) := by decide +kernel
theorem dX12_middleOf_121 : decode cX12_middleOf 121 = .ok (.iload_n 2, 1) := by decide +kernel
theorem dX12_middleOf_122 : decode cX12_middleOf 122 = .ok (.iaload, 1) := by decide +kernel
theorem dX12_middleOf_123 : decode cX12_middleOf 123 = .ok (.imul, 1) := by decide +kernel
theorem dX12_middleOf_124 : decode cX12_middleOf 124 = .ok (.iadd, 1) := by decide +kernel
theorem dX12_middleOf_125 : decode cX12_middleOf 125 = .ok (.iaload, 1) := by decide +kernel
theorem dX12_middleOf_126 : decode cX12_middleOf 126 = .ok (.if_icmp .ne 21, 3) := by decide +kernel
theorem dX12_middleOf_129 : decode cX12_middleOf 129 = .ok (.aload_n 0, 1) := by decide +kernel
theorem dX12_middleOf_130 : decode cX12_middleOf 130 = .ok (.getfield 7, 3) := by decide +kernel
theorem dX12_middleOf_133 : decode cX12_middleOf 133 = .ok (.iload 5, 2) := by decide +kernel
theorem dX12_middleOf_135 : decode cX12_middleOf 135 = .ok (.bipush 10, 2) := by decide +kernel
theorem dX12_middleOf_137 : decode cX12_middleOf 137 = .ok (.iadd, 1) := by decide +kernel
theorem dX12_middleOf_138 : decode cX12_middleOf 138 = .ok (.iaload, 1) := by decide +kernel
theorem dX12_middleOf_139 : decode cX12_middleOf 139 = .ok (.iconst (-1), 1) := by decide +kernel
theorem dX12_middleOf_140 : decode cX12_middleOf 140 = .ok (.if_icmp .ne 7, 3) := by decide +kernel
theorem dX12_middleOf_143 : decode cX12_middleOf 143 = .ok (.iconst 1, 1) := by decide +kernel
theorem dX12_middleOf_144 : decode cX12_middleOf 144 = .ok (.goto 4, 3) := by decide +kernel
theorem dX12_middleOf_147 : decode cX12_middleOf 147 = .ok (.iconst 0, 1) := by decide +kernel
theorem dX12_middleOf_148 : decode cX12_middleOf 148 = .ok (.istore 6, 2) := by decide +kernel
theorem dX12_middleOf_150 : decode cX12_middleOf 150 = .ok (.iload 6, 2) := by decide +kernel
theorem dX12_middleOf_152 : decode cX12_middleOf 152 = .ok (.ifCond .eq 19, 3) := by decide +kernel
theorem dX12_middleOf_155 : decode cX12_middleOf 155 = .ok (.aload_n 0, 1) := by decide +kernel
theorem dX12_middleOf_156 : decode cX12_middleOf 156 = .ok (.iload 4, 2) := by decide +kernel
theorem dX12_middleOf_158 : decode cX12_middleOf 158 = .ok (.aload_n 0, 1) := by decide +kernel
theorem dX12_middleOf_159 : decode cX12_middleOf 159 = .ok (.getfield 7, 3) := by decide +kernel
theorem dX12_middleOf_162 : decode cX12_middleOf 162 = .ok (.iconst 0, 1) := by decide +kernel
theorem dX12_middleOf_163 : decode cX12_middleOf 163 = .ok (.iaload, 1) := by decide +kernel
theorem dX12_middleOf_164 : decode cX12_middleOf 164 = .ok (.iconst 0, 1) := by decide +kernel
theorem dX12_middleOf_165 : decode cX12_middleOf 165 = .ok (.invokevirtual 221, 3) := by decide +kernel
theorem dX12_middleOf_168 : decode cX12_middleOf 168 = .ok (.goto 4, 3) := by decide +kernel
theorem dX12_middleOf_171 : decode cX12_middleOf 171 = .ok (.iconst 0, 1) := by decide +kernel
theorem dX12_middleOf_172 : decode cX12_middleOf 172 = .ok (.istore 7, 2) := by decide +kernel
theorem dX12_middleOf_174 : decode cX12_middleOf 174 = .ok (.iload 7, 2) := by decide +kernel
theorem dX12_middleOf_176 : decode cX12_middleOf 176 = .ok (.ifCond .ne 6, 3) := by decide +kernel
theorem dX12_middleOf_179 : decode cX12_middleOf 179 = .ok (.goto 59, 3) := by decide +kernel
theorem dX12_middleOf_182 : decode cX12_middleOf 182 = .ok (.iload_n 3, 1) := by decide +kernel
theorem dX12_middleOf_183 : decode cX12_middleOf 183 = .ok (.istore 8, 2) := by decide +kernel
theorem dX12_middleOf_185 : decode cX12_middleOf 185 = .ok (.iload 8, 2) := by decide +kernel
theorem dX12_middleOf_187 : decode cX12_middleOf 187 = .ok (.ifCond .le 39, 3) := by decide +kernel
theorem dX12_middleOf_190 : decode cX12_middleOf 190 = .ok (.aload_n 0, 1) := by decide +kernel
theorem dX12_middleOf_191 : decode cX12_middleOf 191 = .ok (.getfield 40, 3) := by decide +kernel
theorem dX12_middleOf_194 : decode cX12_middleOf 194 = .ok (.iload 8, 2) := by decide +kernel
theorem dX12_middleOf_196 : decode cX12_middleOf 196 = .ok (.iconst 1, 1) := by decide +kernel
theorem dX12_middleOf_197 : decode cX12_middleOf 197 = .ok (.isub, 1) := by decide +kernel
theorem dX12_middleOf_198 : decode cX12_middleOf 198 = .ok (.iaload, 1) := by decide +kernel
theorem dX12_middleOf_199 : decode cX12_middleOf 199 = .ok (.iload 7, 2) := by decide +kernel
theorem dX12_middleOf_201 : decode cX12_middleOf 201 = .ok (.if_icmp .le 25, 3) := by decide +kernel
theorem dX12_middleOf_204 : decode cX12_middleOf 204 = .ok (.aload_n 0, 1) := by decide +kernel
theorem dX12_middleOf_205 : decode cX12_middleOf 205 = .ok (.getfield 40, 3) := by decide +kernel
theorem dX12_middleOf_208 : decode cX12_middleOf 208 = .ok (.iload 8, 2) := by decide +kernel
theorem dX12_middleOf_210 : decode cX12_middleOf 210 = .ok (.aload_n 0, 1) := by decide +kernel
theorem dX12_middleOf_211 : decode cX12_middleOf 211 = .ok (.getfield 40, 3) := by decide +kernel
theorem dX12_middleOf_214 : decode cX12_middleOf 214 = .ok (.iload 8, 2) := by decide +kernel
theorem dX12_middleOf_216 : decode cX12_middleOf 216 = .ok (.iconst 1, 1) := by decide +kernel
theorem dX12_middleOf_217 : decode cX12_middleOf 217 = .ok (.isub, 1) := by decide +kernel
theorem dX12_middleOf_218 : decode cX12_middleOf 218 = .ok (.iaload, 1) := by decide +kernel
theorem dX12_middleOf_219 : decode cX12_middleOf 219 = .ok (.iastore, 1) := by decide +kernel
theorem dX12_middleOf_220 : decode cX12_middleOf 220 = .ok (.iinc 8 (-1), 3) := by decide +kernel
theorem dX12_middleOf_223 : decode cX12_middleOf 223 = .ok (.goto (-38), 3) := by decide +kernel
theorem dX12_middleOf_226 : decode cX12_middleOf 226 = .ok (.aload_n 0, 1) := by decide +kernel
theorem dX12_middleOf_227 : decode cX12_middleOf 227 = .ok (.getfield 40, 3) := by decide +kernel
theorem dX12_middleOf_230 : decode cX12_middleOf 230 = .ok (.iload 8, 2) := by decide +kernel
theorem dX12_middleOf_232 : decode cX12_middleOf 232 = .ok (.iload 7, 2) := by decide +kernel
theorem dX12_middleOf_234 : decode cX12_middleOf 234 = .ok (.iastore, 1) := by decide +kernel
theorem dX12_middleOf_235 : decode cX12_middleOf 235 = .ok (.iinc 3 1, 3) := by decide +kernel
theorem dX12_middleOf_238 : decode cX12_middleOf 238 = .ok (.iinc 4 1, 3) := by decide +kernel
theorem dX12_middleOf_241 : decode cX12_middleOf 241 = .ok (.goto (-227), 3) := by decide +kernel
theorem dX12_middleOf_244 : decode cX12_middleOf 244 = .ok (.iload_n 3, 1) := by decide +kernel
theorem dX12_middleOf_245 : decode cX12_middleOf 245 = .ok (.ifCond .ne 7, 3) := by decide +kernel
theorem dX12_middleOf_248 : decode cX12_middleOf 248 = .ok (.iconst (-1), 1) := by decide +kernel
theorem dX12_middleOf_249 : decode cX12_middleOf 249 = .ok (.goto 13, 3) := by decide +kernel
theorem dX12_middleOf_252 : decode cX12_middleOf 252 = .ok (.aload_n 0, 1) := by decide +kernel
theorem dX12_middleOf_253 : decode cX12_middleOf 253 = .ok (.getfield 40, 3) := by decide +kernel
theorem dX12_middleOf_256 : decode cX12_middleOf 256 = .ok (.iload_n 3, 1) := by decide +kernel
theorem dX12_middleOf_257 : decode cX12_middleOf 257 = .ok (.iconst 1, 1) := by decide +kernel
theorem dX12_middleOf_258 : decode cX12_middleOf 258 = .ok (.isub, 1) := by decide +kernel
theorem dX12_middleOf_259 : decode cX12_middleOf 259 = .ok (.iconst 2, 1) := by decide +kernel
theorem dX12_middleOf_260 : decode cX12_middleOf 260 = .ok (.idiv, 1) := by decide +kernel
theorem dX12_middleOf_261 : decode cX12_middleOf 261 = .ok (.iaload, 1) := by decide +kernel
theorem dX12_middleOf_262 : decode cX12_middleOf 262 = .ok (.ireturn, 1) := by decide +kernel
theorem dX12_middle_0 : decode cX12_middle 0 = .ok (.aload_n 0, 1) := by decide +kernel
theorem dX12_middle_1 : decode cX12_middle 1 = .ok (.iload_n 1, 1) := by decide +kernel
theorem dX12_middle_2 : decode cX12_middle 2 = .ok (.invokevirtual 98, 3) := by decide +kernel
theorem dX12_middle_5 : decode cX12_middle 5 = .ok (.ifCond .ne 6, 3) := by decide +kernel
theorem dX12_middle_8 : decode cX12_middle 8 = .ok (.ldc 72, 2) := by decide +kernel
theorem dX12_middle_10 : decode cX12_middle 10 = .ok (.ireturn, 1) := by decide +kernel
theorem dX12_middle_11 : decode cX12_middle 11 = .ok (.aload_n 0, 1) := by decide +kernel
theorem dX12_middle_12 : decode cX12_middle 12 = .ok (.getfield 7, 3) := by decide +kernel
theorem dX12_middle_15 : decode cX12_middle 15 = .ok (.sipush 250, 3) := by decide +kernel
theorem dX12_middle_18 : decode cX12_middle 18 = .ok (.bipush 12, 2) := by decide +kernel
theorem dX12_middle_20 : decode cX12_middle 20 = .ok (.iload_n 1, 1) := by decide +kernel
theorem dX12_middle_21 : decode cX12_middle 21 = .ok (.imul, 1) := by decide +kernel
theorem dX12_middle_22 : decode cX12_middle 22 = .ok (.iadd, 1) := by decide +kernel
theorem dX12_middle_23 : decode cX12_middle 23 = .ok (.bipush 8, 2) := by decide +kernel
theorem dX12_middle_25 : decode cX12_middle 25 = .ok (.iadd, 1) := by decide +kernel
theorem dX12_middle_26 : decode cX12_middle 26 = .ok (.iaload, 1) := by decide +kernel
theorem dX12_middle_27 : decode cX12_middle 27 = .ok (.iconst (-1), 1) := by decide +kernel
theorem dX12_middle_28 : decode cX12_middle 28 = .ok (.if_icmp .ne 6, 3) := by decide +kernel
theorem dX12_middle_31 : decode cX12_middle 31 = .ok (.ldc 91, 2) := by decide +kernel
theorem dX12_middle_33 : decode cX12_middle 33 = .ok (.ireturn, 1) := by decide +kernel
theorem dX12_middle_34 : decode cX12_middle 34 = .ok (.aload_n 0, 1) := by decide +kernel
theorem dX12_middle_35 : decode cX12_middle 35 = .ok (.iload_n 1, 1) := by decide +kernel
theorem dX12_middle_36 : decode cX12_middle 36 = .ok (.invokevirtual 245, 3) := by decide +kernel
theorem dX12_middle_39 : decode cX12_middle 39 = .ok (.istore_n 2, 1) := by decide +kernel
theorem dX12_middle_40 : decode cX12_middle 40 = .ok (.iload_n 2, 1) := by decide +kernel
theorem dX12_middle_41 : decode cX12_middle 41 = .ok (.iconst (-1), 1) := by decide +kernel
theorem dX12_middle_42 : decode cX12_middle 42 = .ok (.if_icmp .ne 8, 3) := by decide +kernel
theorem dX12_middle_45 : decode cX12_middle 45 = .ok (.ldc 91, 2) := by decide +kernel
theorem dX12_middle_47 : decode cX12_middle 47 = .ok (.goto 4, 3) := by decide +kernel
theorem dX12_middle_50 : decode cX12_middle 50 = .ok (.iload_n 2, 1) := by decide +kernel
theorem dX12_middle_51 : decode cX12_middle 51 = .ok (.ireturn, 1) := by decide +kernel
theorem dX12_contest_0 : decode cX12_contest 0 = .ok (.aload_n 0, 1) := by decide +kernel
theorem dX12_contest_1 : decode cX12_contest 1 = .ok (.iload_n 1, 1) := by decide +kernel
theorem dX12_contest_2 : decode cX12_contest 2 = .ok (.invokevirtual 98, 3) := by decide +kernel
theorem dX12_contest_5 : decode cX12_contest 5 = .ok (.ifCond .ne 6, 3) := by decide +kernel
theorem dX12_contest_8 : decode cX12_contest 8 = .ok (.ldc 72, 2) := by decide +kernel
theorem dX12_contest_10 : decode cX12_contest 10 = .ok (.ireturn, 1) := by decide +kernel
theorem dX12_contest_11 : decode cX12_contest 11 = .ok (.sipush 250, 3) := by decide +kernel
theorem dX12_contest_14 : decode cX12_contest 14 = .ok (.bipush 12, 2) := by decide +kernel
theorem dX12_contest_16 : decode cX12_contest 16 = .ok (.iload_n 1, 1) := by decide +kernel
theorem dX12_contest_17 : decode cX12_contest 17 = .ok (.imul, 1) := by decide +kernel
theorem dX12_contest_18 : decode cX12_contest 18 = .ok (.iadd, 1) := by decide +kernel
theorem dX12_contest_19 : decode cX12_contest 19 = .ok (.istore_n 2, 1) := by decide +kernel
theorem dX12_contest_20 : decode cX12_contest 20 = .ok (.aload_n 0, 1) := by decide +kernel
theorem dX12_contest_21 : decode cX12_contest 21 = .ok (.getfield 7, 3) := by decide +kernel
theorem dX12_contest_24 : decode cX12_contest 24 = .ok (.iload_n 2, 1) := by decide +kernel
theorem dX12_contest_25 : decode cX12_contest 25 = .ok (.bipush 8, 2) := by decide +kernel
theorem dX12_contest_27 : decode cX12_contest 27 = .ok (.iadd, 1) := by decide +kernel
theorem dX12_contest_28 : decode cX12_contest 28 = .ok (.iaload, 1) := by decide +kernel
theorem dX12_contest_29 : decode cX12_contest 29 = .ok (.iconst (-1), 1) := by decide +kernel
theorem dX12_contest_30 : decode cX12_contest 30 = .ok (.if_icmp .eq 16, 3) := by decide +kernel
theorem dX12_contest_33 : decode cX12_contest 33 = .ok (.aload_n 0, 1) := by decide +kernel
theorem dX12_contest_34 : decode cX12_contest 34 = .ok (.getfield 7, 3) := by decide +kernel
theorem dX12_contest_37 : decode cX12_contest 37 = .ok (.iload_n 2, 1) := by decide +kernel
theorem dX12_contest_38 : decode cX12_contest 38 = .ok (.bipush 10, 2) := by decide +kernel
theorem dX12_contest_40 : decode cX12_contest 40 = .ok (.iadd, 1) := by decide +kernel
theorem dX12_contest_41 : decode cX12_contest 41 = .ok (.iaload, 1) := by decide +kernel
theorem dX12_contest_42 : decode cX12_contest 42 = .ok (.iconst (-1), 1) := by decide +kernel
theorem dX12_contest_43 : decode cX12_contest 43 = .ok (.if_icmp .eq 6, 3) := by decide +kernel
theorem dX12_contest_46 : decode cX12_contest 46 = .ok (.ldc 91, 2) := by decide +kernel
theorem dX12_contest_48 : decode cX12_contest 48 = .ok (.ireturn, 1) := by decide +kernel
theorem dX12_contest_49 : decode cX12_contest 49 = .ok (.aload_n 0, 1) := by decide +kernel
theorem dX12_contest_50 : decode cX12_contest 50 = .ok (.iload_n 1, 1) := by decide +kernel
theorem dX12_contest_51 : decode cX12_contest 51 = .ok (.invokevirtual 245, 3) := by decide +kernel
theorem dX12_contest_54 : decode cX12_contest 54 = .ok (.istore_n 3, 1) := by decide +kernel
theorem dX12_contest_55 : decode cX12_contest 55 = .ok (.iload_n 3, 1) := by decide +kernel
theorem dX12_contest_56 : decode cX12_contest 56 = .ok (.iconst (-1), 1) := by decide +kernel
theorem dX12_contest_57 : decode cX12_contest 57 = .ok (.if_icmp .ne 6, 3) := by decide +kernel
theorem dX12_contest_60 : decode cX12_contest 60 = .ok (.ldc 91, 2) := by decide +kernel
theorem dX12_contest_62 : decode cX12_contest 62 = .ok (.ireturn, 1) := by decide +kernel
theorem dX12_contest_63 : decode cX12_contest 63 = .ok (.aload_n 0, 1) := by decide +kernel
theorem dX12_contest_64 : decode cX12_contest 64 = .ok (.iload_n 1, 1) := by decide +kernel
theorem dX12_contest_65 : decode cX12_contest 65 = .ok (.aload_n 0, 1) := by decide +kernel
theorem dX12_contest_66 : decode cX12_contest 66 = .ok (.getfield 7, 3) := by decide +kernel
theorem dX12_contest_69 : decode cX12_contest 69 = .ok (.iconst 0, 1) := by decide +kernel
theorem dX12_contest_70 : decode cX12_contest 70 = .ok (.iaload, 1) := by decide +kernel
theorem dX12_contest_71 : decode cX12_contest 71 = .ok (.iconst 0, 1) := by decide +kernel
theorem dX12_contest_72 : decode cX12_contest 72 = .ok (.invokevirtual 221, 3) := by decide +kernel
theorem dX12_contest_75 : decode cX12_contest 75 = .ok (.istore 4, 2) := by decide +kernel
theorem dX12_contest_77 : decode cX12_contest 77 = .ok (.iload 4, 2) := by decide +kernel
theorem dX12_contest_79 : decode cX12_contest 79 = .ok (.iload_n 3, 1) := by decide +kernel
theorem dX12_contest_80 : decode cX12_contest 80 = .ok (.if_icmp .le 34, 3) := by decide +kernel
theorem dX12_contest_83 : decode cX12_contest 83 = .ok (.aload_n 0, 1) := by decide +kernel
theorem dX12_contest_84 : decode cX12_contest 84 = .ok (.getfield 7, 3) := by decide +kernel
theorem dX12_contest_87 : decode cX12_contest 87 = .ok (.iload_n 2, 1) := by decide +kernel
theorem dX12_contest_88 : decode cX12_contest 88 = .ok (.bipush 9, 2) := by decide +kernel
theorem dX12_contest_90 : decode cX12_contest 90 = .ok (.iadd, 1) := by decide +kernel
theorem dX12_contest_91 : decode cX12_contest 91 = .ok (.iaload, 1) := by decide +kernel
theorem dX12_contest_92 : decode cX12_contest 92 = .ok (.aload_n 0, 1) := by decide +kernel
theorem dX12_contest_93 : decode cX12_contest 93 = .ok (.getfield 7, 3) := by decide +kernel
theorem dX12_contest_96 : decode cX12_contest 96 = .ok (.iload_n 2, 1) := by decide +kernel
theorem dX12_contest_97 : decode cX12_contest 97 = .ok (.bipush 9, 2) := by decide +kernel
theorem dX12_contest_99 : decode cX12_contest 99 = .ok (.iadd, 1) := by decide +kernel
theorem dX12_contest_100 : decode cX12_contest 100 = .ok (.iaload, 1) := by decide +kernel
theorem dX12_contest_101 : decode cX12_contest 101 = .ok (.i2l, 1) := by decide +kernel
theorem dX12_contest_102 : decode cX12_contest 102 = .ok (.iload_n 3, 1) := by decide +kernel
theorem dX12_contest_103 : decode cX12_contest 103 = .ok (.i2l, 1) := by decide +kernel
theorem dX12_contest_104 : decode cX12_contest 104 = .ok (.lmul, 1) := by decide +kernel
theorem dX12_contest_105 : decode cX12_contest 105 = .ok (.iload 4, 2) := by decide +kernel
theorem dX12_contest_107 : decode cX12_contest 107 = .ok (.i2l, 1) := by decide +kernel
theorem dX12_contest_108 : decode cX12_contest 108 = .ok (.ldiv, 1) := by decide +kernel
theorem dX12_contest_109 : decode cX12_contest 109 = .ok (.l2i, 1) := by decide +kernel
theorem dX12_contest_110 : decode cX12_contest 110 = .ok (.isub, 1) := by decide +kernel
theorem dX12_contest_111 : decode cX12_contest 111 = .ok (.goto 4, 3) := by decide +kernel
theorem dX12_contest_114 : decode cX12_contest 114 = .ok (.iconst 0, 1) := by decide +kernel
theorem dX12_contest_115 : decode cX12_contest 115 = .ok (.istore 5, 2) := by decide +kernel
theorem dX12_contest_117 : decode cX12_contest 117 = .ok (.aload_n 0, 1) := by decide +kernel
theorem dX12_contest_118 : decode cX12_contest 118 = .ok (.getfield 7, 3) := by decide +kernel
theorem dX12_contest_121 : decode cX12_contest 121 = .ok (.iload_n 2, 1) := by decide +kernel
theorem dX12_contest_122 : decode cX12_contest 122 = .ok (.iconst 1, 1) := by decide +kernel
theorem dX12_contest_123 : decode cX12_contest 123 = .ok (.iadd, 1) := by decide +kernel
theorem dX12_contest_124 : decode cX12_contest 124 = .ok (.iaload, 1) := by decide +kernel
theorem dX12_contest_125 : decode cX12_contest 125 = .ok (.istore 6, 2) := by decide +kernel
theorem dX12_contest_127 : decode cX12_contest 127 = .ok (.aload_n 0, 1) := by decide +kernel
theorem dX12_contest_128 : decode cX12_contest 128 = .ok (.iload 6, 2) := by decide +kernel
theorem dX12_contest_130 : decode cX12_contest 130 = .ok (.iload 5, 2) := by decide +kernel
theorem dX12_contest_132 : decode cX12_contest 132 = .ok (.invokevirtual 232, 3) := by decide +kernel
theorem dX12_contest_135 : decode cX12_contest 135 = .ok (.sipush 1630, 3) := by decide +kernel
theorem dX12_contest_138 : decode cX12_contest 138 = .ok (.bipush 12, 2) := by decide +kernel
theorem dX12_contest_140 : decode cX12_contest 140 = .ok (.aload_n 0, 1) := by decide +kernel
theorem dX12_contest_141 : decode cX12_contest 141 = .ok (.getfield 7, 3) := by decide +kernel
theorem dX12_contest_144 : decode cX12_contest 144 = .ok (.iload_n 2, 1) := by decide +kernel
theorem dX12_contest_145 : decode cX12_contest 145 = .ok (.bipush 8, 2) := by decide +kernel
theorem dX12_contest_147 : decode cX12_contest 147 = .ok (.iadd, 1) := by decide +kernel
theorem dX12_contest_148 : decode cX12_contest 148 = .ok (.iaload, 1) := by decide +kernel
theorem dX12_contest_149 : decode cX12_contest 149 = .ok (.imul, 1) := by decide +kernel
theorem dX12_contest_150 : decode cX12_contest 150 = .ok (.iadd, 1) := by decide +kernel
theorem dX12_contest_151 : decode cX12_contest 151 = .ok (.bipush 6, 2) := by decide +kernel
theorem dX12_contest_153 : decode cX12_contest 153 = .ok (.iadd, 1) := by decide +kernel
theorem dX12_contest_154 : decode cX12_contest 154 = .ok (.istore 7, 2) := by decide +kernel
theorem dX12_contest_156 : decode cX12_contest 156 = .ok (.bipush 50, 2) := by decide +kernel
theorem dX12_contest_158 : decode cX12_contest 158 = .ok (.bipush 20, 2) := by decide +kernel
theorem dX12_contest_160 : decode cX12_contest 160 = .ok (.iload 6, 2) := by decide +kernel
theorem dX12_contest_162 : decode cX12_contest 162 = .ok (.imul, 1) := by decide +kernel
theorem dX12_contest_163 : decode cX12_contest 163 = .ok (.iadd, 1) := by decide +kernel
theorem dX12_contest_164 : decode cX12_contest 164 = .ok (.bipush 11, 2) := by decide +kernel
theorem dX12_contest_166 : decode cX12_contest 166 = .ok (.iadd, 1) := by decide +kernel
theorem dX12_contest_167 : decode cX12_contest 167 = .ok (.istore 8, 2) := by decide +kernel
theorem dX12_contest_169 : decode cX12_contest 169 = .ok (.iconst 0, 1) := by decide +kernel
theorem dX12_contest_170 : decode cX12_contest 170 = .ok (.istore 9, 2) := by decide +kernel
theorem dX12_contest_172 : decode cX12_contest 172 = .ok (.iload 9, 2) := by decide +kernel
theorem dX12_contest_174 : decode cX12_contest 174 = .ok (.aload_n 0, 1) := by decide +kernel
theorem dX12_contest_175 : decode cX12_contest 175 = .ok (.getfield 7, 3) := by decide +kernel
theorem dX12_contest_178 : decode cX12_contest 178 = .ok (.bipush 50, 2) := by decide +kernel
theorem dX12_contest_180 : decode cX12_contest 180 = .ok (.bipush 20, 2) := by decide +kernel
theorem dX12_contest_182 : decode cX12_contest 182 = .ok (.iload 6, 2) := by decide +kernel
theorem dX12_contest_184 : decode cX12_contest 184 = .ok (.imul, 1) := by decide +kernel
theorem dX12_contest_185 : decode cX12_contest 185 = .ok (.iadd, 1) := by decide +kernel
theorem dX12_contest_186 : decode cX12_contest 186 = .ok (.bipush 10, 2) := by decide +kernel
theorem dX12_contest_188 : decode cX12_contest 188 = .ok (.iadd, 1) := by decide +kernel
theorem dX12_contest_189 : decode cX12_contest 189 = .ok (.iaload, 1) := by decide +kernel
theorem dX12_contest_190 : decode cX12_contest 190 = .ok (.if_icmp .ge 68, 3) := by decide +kernel
theorem dX12_contest_193 : decode cX12_contest 193 = .ok (.aload_n 0, 1) := by decide +kernel
theorem dX12_contest_194 : decode cX12_contest 194 = .ok (.getfield 7, 3) := by decide +kernel
theorem dX12_contest_197 : decode cX12_contest 197 = .ok (.iload 8, 2) := by decide +kernel
theorem dX12_contest_199 : decode cX12_contest 199 = .ok (.iload 9, 2) := by decide +kernel
theorem dX12_contest_201 : decode cX12_contest 201 = .ok (.iadd, 1) := by decide +kernel
theorem dX12_contest_202 : decode cX12_contest 202 = .ok (.iaload, 1) := by decide +kernel
theorem dX12_contest_203 : decode cX12_contest 203 = .ok (.istore 10, 2) := by decide +kernel
theorem dX12_contest_205 : decode cX12_contest 205 = .ok (.aload_n 0, 1) := by decide +kernel
theorem dX12_contest_206 : decode cX12_contest 206 = .ok (.getfield 7, 3) := by decide +kernel
theorem dX12_contest_209 : decode cX12_contest 209 = .ok (.bipush 44, 2) := by decide +kernel
theorem dX12_contest_211 : decode cX12_contest 211 = .ok (.iload 10, 2) := by decide +kernel
theorem dX12_contest_213 : decode cX12_contest 213 = .ok (.iadd, 1) := by decide +kernel
theorem dX12_contest_214 : decode cX12_contest 214 = .ok (.iaload, 1) := by decide +kernel
theorem dX12_contest_215 : decode cX12_contest 215 = .ok (.aload_n 0, 1) := by decide +kernel
theorem dX12_contest_216 : decode cX12_contest 216 = .ok (.getfield 37, 3) := by decide +kernel
theorem dX12_contest_219 : decode cX12_contest 219 = .ok (.iload 9, 2) := by decide +kernel
theorem dX12_contest_221 : decode cX12_contest 221 = .ok (.iaload, 1) := by decide +kernel
theorem dX12_contest_222 : decode cX12_contest 222 = .ok (.iadd, 1) := by decide +kernel
theorem dX12_contest_223 : decode cX12_contest 223 = .ok (.aload_n 0, 1) := by decide +kernel
theorem dX12_contest_224 : decode cX12_contest 224 = .ok (.getfield 37, 3) := by decide +kernel
theorem dX12_contest_227 : decode cX12_contest 227 = .ok (.iload 9, 2) := by decide +kernel
theorem dX12_contest_229 : decode cX12_contest 229 = .ok (.iaload, 1) := by decide +kernel
theorem dX12_contest_230 : decode cX12_contest 230 = .ok (.aload_n 0, 1) := by decide +kernel
theorem dX12_contest_231 : decode cX12_contest 231 = .ok (.getfield 7, 3) := by decide +kernel
theorem dX12_contest_234 : decode cX12_contest 234 = .ok (.iload 7, 2) := by decide +kernel
theorem dX12_contest_236 : decode cX12_contest 236 = .ok (.iload 10, 2) := by decide +kernel
theorem dX12_contest_238 : decode cX12_contest 238 = .ok (.iadd, 1) := by decide +kernel
theorem dX12_contest_239 : decode cX12_contest 239 = .ok (.iaload, 1) := by decide +kernel
theorem dX12_contest_240 : decode cX12_contest 240 = .ok (.invokestatic 218, 3) := by decide +kernel
theorem dX12_contest_243 : decode cX12_contest 243 = .ok (.isub, 1) := by decide +kernel
theorem dX12_contest_244 : decode cX12_contest 244 = .ok (.ldc 241, 2) := by decide +kernel
theorem dX12_contest_246 : decode cX12_contest 246 = .ok (.if_icmp .le 6, 3) := by decide +kernel
theorem dX12_contest_249 : decode cX12_contest 249 = .ok (.ldc 73, 2) := by decide +kernel
theorem dX12_contest_251 : decode cX12_contest 251 = .ok (.ireturn, 1) := by decide +kernel
theorem dX12_contest_252 : decode cX12_contest 252 = .ok (.iinc 9 1, 3) := by decide +kernel
theorem dX12_contest_255 : decode cX12_contest 255 = .ok (.goto (-83), 3) := by decide +kernel
theorem dX12_contest_258 : decode cX12_contest 258 = .ok (.iconst 0, 1) := by decide +kernel
theorem dX12_contest_259 : decode cX12_contest 259 = .ok (.istore 9, 2) := by decide +kernel
theorem dX12_contest_261 : decode cX12_contest 261 = .ok (.iload 9, 2) := by decide +kernel
theorem dX12_contest_263 : decode cX12_contest 263 = .ok (.aload_n 0, 1) := by decide +kernel
theorem dX12_contest_264 : decode cX12_contest 264 = .ok (.getfield 7, 3) := by decide +kernel
theorem dX12_contest_267 : decode cX12_contest 267 = .ok (.bipush 50, 2) := by decide +kernel
theorem dX12_contest_269 : decode cX12_contest 269 = .ok (.bipush 20, 2) := by decide +kernel
theorem dX12_contest_271 : decode cX12_contest 271 = .ok (.iload 6, 2) := by decide +kernel
theorem dX12_contest_273 : decode cX12_contest 273 = .ok (.imul, 1) := by decide +kernel
theorem dX12_contest_274 : decode cX12_contest 274 = .ok (.iadd, 1) := by decide +kernel
theorem dX12_contest_275 : decode cX12_contest 275 = .ok (.bipush 10, 2) := by decide +kernel
theorem dX12_contest_277 : decode cX12_contest 277 = .ok (.iadd, 1) := by decide +kernel
theorem dX12_contest_278 : decode cX12_contest 278 = .ok (.iaload, 1) := by decide +kernel
theorem dX12_contest_279 : decode cX12_contest 279 = .ok (.if_icmp .ge 81, 3) := by decide +kernel
theorem dX12_contest_282 : decode cX12_contest 282 = .ok (.aload_n 0, 1) := by decide +kernel
theorem dX12_contest_283 : decode cX12_contest 283 = .ok (.getfield 7, 3) := by decide +kernel
theorem dX12_contest_286 : decode cX12_contest 286 = .ok (.iload 8, 2) := by decide +kernel
theorem dX12_contest_288 : decode cX12_contest 288 = .ok (.iload 9, 2) := by decide +kernel
theorem dX12_contest_290 : decode cX12_contest 290 = .ok (.iadd, 1) := by decide +kernel
theorem dX12_contest_291 : decode cX12_contest 291 = .ok (.iaload, 1) := by decide +kernel
theorem dX12_contest_292 : decode cX12_contest 292 = .ok (.istore 10, 2) := by decide +kernel
theorem dX12_contest_294 : decode cX12_contest 294 = .ok (.aload_n 0, 1) := by decide +kernel
theorem dX12_contest_295 : decode cX12_contest 295 = .ok (.getfield 37, 3) := by decide +kernel
theorem dX12_contest_298 : decode cX12_contest 298 = .ok (.iload 9, 2) := by decide +kernel
theorem dX12_contest_300 : decode cX12_contest 300 = .ok (.iaload, 1) := by decide +kernel
theorem dX12_contest_301 : decode cX12_contest 301 = .ok (.aload_n 0, 1) := by decide +kernel
theorem dX12_contest_302 : decode cX12_contest 302 = .ok (.getfield 7, 3) := by decide +kernel
theorem dX12_contest_305 : decode cX12_contest 305 = .ok (.iload 7, 2) := by decide +kernel
theorem dX12_contest_307 : decode cX12_contest 307 = .ok (.iload 10, 2) := by decide +kernel
theorem dX12_contest_309 : decode cX12_contest 309 = .ok (.iadd, 1) := by decide +kernel
theorem dX12_contest_310 : decode cX12_contest 310 = .ok (.iaload, 1) := by decide +kernel
theorem dX12_contest_311 : decode cX12_contest 311 = .ok (.invokestatic 218, 3) := by decide +kernel
theorem dX12_contest_314 : decode cX12_contest 314 = .ok (.istore 11, 2) := by decide +kernel
theorem dX12_contest_316 : decode cX12_contest 316 = .ok (.aload_n 0, 1) := by decide +kernel
theorem dX12_contest_317 : decode cX12_contest 317 = .ok (.getfield 7, 3) := by decide +kernel
theorem dX12_contest_320 : decode cX12_contest 320 = .ok (.iload 7, 2) := by decide +kernel
theorem dX12_contest_322 : decode cX12_contest 322 = .ok (.iload 10, 2) := by decide +kernel
theorem dX12_contest_324 : decode cX12_contest 324 = .ok (.iadd, 1) := by decide +kernel
theorem dX12_contest_325 : decode cX12_contest 325 = .ok (.dup2, 1) := by decide +kernel
theorem dX12_contest_326 : decode cX12_contest 326 = .ok (.iaload, 1) := by decide +kernel
theorem dX12_contest_327 : decode cX12_contest 327 = .ok (.iload 11, 2) := by decide +kernel
theorem dX12_contest_329 : decode cX12_contest 329 = .ok (.isub, 1) := by decide +kernel
theorem dX12_contest_330 : decode cX12_contest 330 = .ok (.iastore, 1) := by decide +kernel
theorem dX12_contest_331 : decode cX12_contest 331 = .ok (.aload_n 0, 1) := by decide +kernel
theorem dX12_contest_332 : decode cX12_contest 332 = .ok (.getfield 7, 3) := by decide +kernel
theorem dX12_contest_335 : decode cX12_contest 335 = .ok (.bipush 44, 2) := by decide +kernel
theorem dX12_contest_337 : decode cX12_contest 337 = .ok (.iload 10, 2) := by decide +kernel
theorem dX12_contest_339 : decode cX12_contest 339 = .ok (.iadd, 1) := by decide +kernel
theorem dX12_contest_340 : decode cX12_contest 340 = .ok (.dup2, 1) := by decide +kernel
theorem dX12_contest_341 : decode cX12_contest 341 = .ok (.iaload, 1) := by decide +kernel
theorem dX12_contest_342 : decode cX12_contest 342 = .ok (.aload_n 0, 1) := by decide +kernel
theorem dX12_contest_343 : decode cX12_contest 343 = .ok (.getfield 37, 3) := by decide +kernel
theorem dX12_contest_346 : decode cX12_contest 346 = .ok (.iload 9, 2) := by decide +kernel
theorem dX12_contest_348 : decode cX12_contest 348 = .ok (.iaload, 1) := by decide +kernel
theorem dX12_contest_349 : decode cX12_contest 349 = .ok (.iload 11, 2) := by decide +kernel
theorem dX12_contest_351 : decode cX12_contest 351 = .ok (.isub, 1) := by decide +kernel
theorem dX12_contest_352 : decode cX12_contest 352 = .ok (.iadd, 1) := by decide +kernel
theorem dX12_contest_353 : decode cX12_contest 353 = .ok (.iastore, 1) := by decide +kernel
theorem dX12_contest_354 : decode cX12_contest 354 = .ok (.iinc 9 1, 3) := by decide +kernel
theorem dX12_contest_357 : decode cX12_contest 357 = .ok (.goto (-96), 3) := by decide +kernel
theorem dX12_contest_360 : decode cX12_contest 360 = .ok (.aload_n 0, 1) := by decide +kernel
theorem dX12_contest_361 : decode cX12_contest 361 = .ok (.getfield 7, 3) := by decide +kernel
theorem dX12_contest_364 : decode cX12_contest 364 = .ok (.iload_n 2, 1) := by decide +kernel
theorem dX12_contest_365 : decode cX12_contest 365 = .ok (.bipush 10, 2) := by decide +kernel
theorem dX12_contest_367 : decode cX12_contest 367 = .ok (.iadd, 1) := by decide +kernel
theorem dX12_contest_368 : decode cX12_contest 368 = .ok (.iload 5, 2) := by decide +kernel
theorem dX12_contest_370 : decode cX12_contest 370 = .ok (.iastore, 1) := by decide +kernel
theorem dX12_contest_371 : decode cX12_contest 371 = .ok (.iload 5, 2) := by decide +kernel
theorem dX12_contest_373 : decode cX12_contest 373 = .ok (.ireturn, 1) := by decide +kernel
theorem dX12_stage_0 : decode cX12_stage 0 = .ok (.aload_n 0, 1) := by decide +kernel
theorem dX12_stage_1 : decode cX12_stage 1 = .ok (.iload_n 1, 1) := by decide +kernel
theorem dX12_stage_2 : decode cX12_stage 2 = .ok (.invokevirtual 82, 3) := by decide +kernel
theorem dX12_stage_5 : decode cX12_stage 5 = .ok (.ifCond .eq 12, 3) := by decide +kernel
theorem dX12_stage_8 : decode cX12_stage 8 = .ok (.iload_n 2, 1) := by decide +kernel
theorem dX12_stage_9 : decode cX12_stage 9 = .ok (.iconst 1, 1) := by decide +kernel
theorem dX12_stage_10 : decode cX12_stage 10 = .ok (.iconst 5, 1) := by decide +kernel
theorem dX12_stage_11 : decode cX12_stage 11 = .ok (.invokestatic 68, 3) := by decide +kernel
theorem dX12_stage_14 : decode cX12_stage 14 = .ok (.ifCond .ne 6, 3) := by decide +kernel
theorem dX12_stage_17 : decode cX12_stage 17 = .ok (.ldc 72, 2) := by decide +kernel
theorem dX12_stage_19 : decode cX12_stage 19 = .ok (.ireturn, 1) := by decide +kernel
theorem dX12_stage_20 : decode cX12_stage 20 = .ok (.bipush 50, 2) := by decide +kernel
theorem dX12_stage_22 : decode cX12_stage 22 = .ok (.bipush 20, 2) := by decide +kernel
theorem dX12_stage_24 : decode cX12_stage 24 = .ok (.iload_n 1, 1) := by decide +kernel
theorem dX12_stage_25 : decode cX12_stage 25 = .ok (.imul, 1) := by decide +kernel
theorem dX12_stage_26 : decode cX12_stage 26 = .ok (.iadd, 1) := by decide +kernel
theorem dX12_stage_27 : decode cX12_stage 27 = .ok (.istore_n 3, 1) := by decide +kernel
theorem dX12_stage_28 : decode cX12_stage 28 = .ok (.iload_n 2, 1) := by decide +kernel
theorem dX12_stage_29 : decode cX12_stage 29 = .ok (.aload_n 0, 1) := by decide +kernel
theorem dX12_stage_30 : decode cX12_stage 30 = .ok (.getfield 7, 3) := by decide +kernel
theorem dX12_stage_33 : decode cX12_stage 33 = .ok (.iload_n 3, 1) := by decide +kernel
theorem dX12_stage_34 : decode cX12_stage 34 = .ok (.iconst 4, 1) := by decide +kernel
theorem dX12_stage_35 : decode cX12_stage 35 = .ok (.iadd, 1) := by decide +kernel
theorem dX12_stage_36 : decode cX12_stage 36 = .ok (.iaload, 1) := by decide +kernel
theorem dX12_stage_37 : decode cX12_stage 37 = .ok (.if_icmp .gt 6, 3) := by decide +kernel
theorem dX12_stage_40 : decode cX12_stage 40 = .ok (.ldc 91, 2) := by decide +kernel
theorem dX12_stage_42 : decode cX12_stage 42 = .ok (.ireturn, 1) := by decide +kernel
theorem dX12_stage_43 : decode cX12_stage 43 = .ok (.iconst 0, 1) := by decide +kernel
theorem dX12_stage_44 : decode cX12_stage 44 = .ok (.istore 4, 2) := by decide +kernel
theorem dX12_stage_46 : decode cX12_stage 46 = .ok (.iconst 0, 1) := by decide +kernel
theorem dX12_stage_47 : decode cX12_stage 47 = .ok (.istore 5, 2) := by decide +kernel
theorem dX12_stage_49 : decode cX12_stage 49 = .ok (.iload 5, 2) := by decide +kernel
theorem dX12_stage_51 : decode cX12_stage 51 = .ok (.aload_n 0, 1) := by decide +kernel
theorem dX12_stage_52 : decode cX12_stage 52 = .ok (.getfield 7, 3) := by decide +kernel
theorem dX12_stage_55 : decode cX12_stage 55 = .ok (.bipush 7, 2) := by decide +kernel
theorem dX12_stage_57 : decode cX12_stage 57 = .ok (.iaload, 1) := by decide +kernel
theorem dX12_stage_58 : decode cX12_stage 58 = .ok (.if_icmp .ge 65, 3) := by decide +kernel
theorem dX12_stage_61 : decode cX12_stage 61 = .ok (.iload 4, 2) := by decide +kernel
theorem dX12_stage_63 : decode cX12_stage 63 = .ok (.aload_n 0, 1) := by decide +kernel
theorem dX12_stage_64 : decode cX12_stage 64 = .ok (.getfield 7, 3) := by decide +kernel
theorem dX12_stage_67 : decode cX12_stage 67 = .ok (.sipush 250, 3) := by decide +kernel
theorem dX12_stage_70 : decode cX12_stage 70 = .ok (.bipush 12, 2) := by decide +kernel
theorem dX12_stage_72 : decode cX12_stage 72 = .ok (.iload 5, 2) := by decide +kernel
theorem dX12_stage_74 : decode cX12_stage 74 = .ok (.imul, 1) := by decide +kernel
theorem dX12_stage_75 : decode cX12_stage 75 = .ok (.iadd, 1) := by decide +kernel
theorem dX12_stage_76 : decode cX12_stage 76 = .ok (.iconst 1, 1) := by decide +kernel
theorem dX12_stage_77 : decode cX12_stage 77 = .ok (.iadd, 1) := by decide +kernel
theorem dX12_stage_78 : decode cX12_stage 78 = .ok (.iaload, 1) := by decide +kernel
theorem dX12_stage_79 : decode cX12_stage 79 = .ok (.iload_n 1, 1) := by decide +kernel
theorem dX12_stage_80 : decode cX12_stage 80 = .ok (.if_icmp .ne 33, 3) := by decide +kernel
theorem dX12_stage_83 : decode cX12_stage 83 = .ok (.aload_n 0, 1) := by decide +kernel
theorem dX12_stage_84 : decode cX12_stage 84 = .ok (.iload 5, 2) := by decide +kernel
theorem dX12_stage_86 : decode cX12_stage 86 = .ok (.aload_n 0, 1) := by decide +kernel
theorem dX12_stage_87 : decode cX12_stage 87 = .ok (.getfield 7, 3) := by decide +kernel
theorem dX12_stage_90 : decode cX12_stage 90 = .ok (.iconst 0, 1) := by decide +kernel
theorem dX12_stage_91 : decode cX12_stage 91 = .ok (.iaload, 1) := by decide +kernel
theorem dX12_stage_92 : decode cX12_stage 92 = .ok (.invokevirtual 101, 3) := by decide +kernel
theorem dX12_stage_95 : decode cX12_stage 95 = .ok (.ifCond .eq 18, 3) := by decide +kernel
theorem dX12_stage_98 : decode cX12_stage 98 = .ok (.aload_n 0, 1) := by decide +kernel
theorem dX12_stage_99 : decode cX12_stage 99 = .ok (.iload 5, 2) := by decide +kernel
theorem dX12_stage_101 : decode cX12_stage 101 = .ok (.aload_n 0, 1) := by decide +kernel
theorem dX12_stage_102 : decode cX12_stage 102 = .ok (.getfield 7, 3) := by decide +kernel
theorem dX12_stage_105 : decode cX12_stage 105 = .ok (.iconst 0, 1) := by decide +kernel
theorem dX12_stage_106 : decode cX12_stage 106 = .ok (.iaload, 1) := by decide +kernel
theorem dX12_stage_107 : decode cX12_stage 107 = .ok (.invokevirtual 227, 3) := by decide +kernel
theorem dX12_stage_110 : decode cX12_stage 110 = .ok (.goto 4, 3) := by decide +kernel
theorem dX12_stage_113 : decode cX12_stage 113 = .ok (.iconst 0, 1) := by decide +kernel
theorem dX12_stage_114 : decode cX12_stage 114 = .ok (.iadd, 1) := by decide +kernel
theorem dX12_stage_115 : decode cX12_stage 115 = .ok (.istore 4, 2) := by decide +kernel
theorem dX12_stage_117 : decode cX12_stage 117 = .ok (.iinc 5 1, 3) := by decide +kernel
theorem dX12_stage_120 : decode cX12_stage 120 = .ok (.goto (-71), 3) := by decide +kernel
theorem dX12_stage_123 : decode cX12_stage 123 = .ok (.aload_n 0, 1) := by decide +kernel
theorem dX12_stage_124 : decode cX12_stage 124 = .ok (.getfield 7, 3) := by decide +kernel
theorem dX12_stage_127 : decode cX12_stage 127 = .ok (.iload_n 3, 1) := by decide +kernel
theorem dX12_stage_128 : decode cX12_stage 128 = .ok (.iconst 4, 1) := by decide +kernel
theorem dX12_stage_129 : decode cX12_stage 129 = .ok (.iadd, 1) := by decide +kernel
theorem dX12_stage_130 : decode cX12_stage 130 = .ok (.iload_n 2, 1) := by decide +kernel
theorem dX12_stage_131 : decode cX12_stage 131 = .ok (.iastore, 1) := by decide +kernel
theorem dX12_stage_132 : decode cX12_stage 132 = .ok (.aload_n 0, 1) := by decide +kernel
theorem dX12_stage_133 : decode cX12_stage 133 = .ok (.getfield 7, 3) := by decide +kernel
theorem dX12_stage_136 : decode cX12_stage 136 = .ok (.iload_n 3, 1) := by decide +kernel
theorem dX12_stage_137 : decode cX12_stage 137 = .ok (.iconst 4, 1) := by decide +kernel
theorem dX12_stage_138 : decode cX12_stage 138 = .ok (.iadd, 1) := by decide +kernel
theorem dX12_stage_139 : decode cX12_stage 139 = .ok (.iload_n 2, 1) := by decide +kernel
theorem dX12_stage_140 : decode cX12_stage 140 = .ok (.iadd, 1) := by decide +kernel
theorem dX12_stage_141 : decode cX12_stage 141 = .ok (.iload 4, 2) := by decide +kernel
theorem dX12_stage_143 : decode cX12_stage 143 = .ok (.iastore, 1) := by decide +kernel
theorem dX12_stage_144 : decode cX12_stage 144 = .ok (.iload 4, 2) := by decide +kernel
theorem dX12_stage_146 : decode cX12_stage 146 = .ok (.ireturn, 1) := by decide +kernel
theorem dX12_foretold_0 : decode cX12_foretold 0 = .ok (.aload_n 0, 1) := by decide +kernel
theorem dX12_foretold_1 : decode cX12_foretold 1 = .ok (.iload_n 1, 1) := by decide +kernel
theorem dX12_foretold_2 : decode cX12_foretold 2 = .ok (.invokevirtual 82, 3) := by decide +kernel
theorem dX12_foretold_5 : decode cX12_foretold 5 = .ok (.ifCond .eq 12, 3) := by decide +kernel
theorem dX12_foretold_8 : decode cX12_foretold 8 = .ok (.iload_n 2, 1) := by decide +kernel
theorem dX12_foretold_9 : decode cX12_foretold 9 = .ok (.iconst 0, 1) := by decide +kernel
theorem dX12_foretold_10 : decode cX12_foretold 10 = .ok (.iconst 1, 1) := by decide +kernel
theorem dX12_foretold_11 : decode cX12_foretold 11 = .ok (.invokestatic 68, 3) := by decide +kernel
theorem dX12_foretold_14 : decode cX12_foretold 14 = .ok (.ifCond .ne 6, 3) := by decide +kernel
theorem dX12_foretold_17 : decode cX12_foretold 17 = .ok (.ldc 72, 2) := by decide +kernel
theorem dX12_foretold_19 : decode cX12_foretold 19 = .ok (.ireturn, 1) := by decide +kernel
theorem dX12_foretold_20 : decode cX12_foretold 20 = .ok (.bipush 50, 2) := by decide +kernel
theorem dX12_foretold_22 : decode cX12_foretold 22 = .ok (.bipush 20, 2) := by decide +kernel
theorem dX12_foretold_24 : decode cX12_foretold 24 = .ok (.iload_n 1, 1) := by decide +kernel
theorem dX12_foretold_25 : decode cX12_foretold 25 = .ok (.imul, 1) := by decide +kernel
theorem dX12_foretold_26 : decode cX12_foretold 26 = .ok (.iadd, 1) := by decide +kernel
theorem dX12_foretold_27 : decode cX12_foretold 27 = .ok (.istore_n 3, 1) := by decide +kernel
theorem dX12_foretold_28 : decode cX12_foretold 28 = .ok (.aload_n 0, 1) := by decide +kernel
theorem dX12_foretold_29 : decode cX12_foretold 29 = .ok (.getfield 7, 3) := by decide +kernel
theorem dX12_foretold_32 : decode cX12_foretold 32 = .ok (.iload_n 3, 1) := by decide +kernel
theorem dX12_foretold_33 : decode cX12_foretold 33 = .ok (.iconst 4, 1) := by decide +kernel
theorem dX12_foretold_34 : decode cX12_foretold 34 = .ok (.iadd, 1) := by decide +kernel
theorem dX12_foretold_35 : decode cX12_foretold 35 = .ok (.iaload, 1) := by decide +kernel
theorem dX12_foretold_36 : decode cX12_foretold 36 = .ok (.istore 4, 2) := by decide +kernel
theorem dX12_foretold_38 : decode cX12_foretold 38 = .ok (.iload 4, 2) := by decide +kernel
theorem dX12_foretold_40 : decode cX12_foretold 40 = .ok (.ifCond .eq 9, 3) := by decide +kernel
theorem dX12_foretold_43 : decode cX12_foretold 43 = .ok (.iload 4, 2) := by decide +kernel
theorem dX12_foretold_45 : decode cX12_foretold 45 = .ok (.iconst 5, 1) := by decide +kernel
theorem dX12_foretold_46 : decode cX12_foretold 46 = .ok (.if_icmp .ne 6, 3) := by decide +kernel
theorem dX12_foretold_49 : decode cX12_foretold 49 = .ok (.ldc 91, 2) := by decide +kernel
theorem dX12_foretold_51 : decode cX12_foretold 51 = .ok (.ireturn, 1) := by decide +kernel
theorem dX12_foretold_52 : decode cX12_foretold 52 = .ok (.ldc2_w 248, 3) := by decide +kernel
theorem dX12_foretold_55 : decode cX12_foretold 55 = .ok (.lstore 5, 2) := by decide +kernel
theorem dX12_foretold_57 : decode cX12_foretold 57 = .ok (.iconst 0, 1) := by decide +kernel
theorem dX12_foretold_58 : decode cX12_foretold 58 = .ok (.istore 7, 2) := by decide +kernel
theorem dX12_foretold_60 : decode cX12_foretold 60 = .ok (.iload 7, 2) := by decide +kernel
theorem dX12_foretold_62 : decode cX12_foretold 62 = .ok (.aload_n 0, 1) := by decide +kernel
theorem dX12_foretold_63 : decode cX12_foretold 63 = .ok (.getfield 7, 3) := by decide +kernel
theorem dX12_foretold_66 : decode cX12_foretold 66 = .ok (.bipush 6, 2) := by decide +kernel
theorem dX12_foretold_68 : decode cX12_foretold 68 = .ok (.iaload, 1) := by decide +kernel
theorem dX12_foretold_69 : decode cX12_foretold 69 = .ok (.if_icmp .ge 152, 3) := by decide +kernel
theorem dX12_foretold_72 : decode cX12_foretold 72 = .ok (.bipush 50, 2) := by decide +kernel
theorem dX12_foretold_74 : decode cX12_foretold 74 = .ok (.bipush 20, 2) := by decide +kernel
theorem dX12_foretold_76 : decode cX12_foretold 76 = .ok (.iload 7, 2) := by decide +kernel
theorem dX12_foretold_78 : decode cX12_foretold 78 = .ok (.imul, 1) := by decide +kernel
theorem dX12_foretold_79 : decode cX12_foretold 79 = .ok (.iadd, 1) := by decide +kernel
theorem dX12_foretold_80 : decode cX12_foretold 80 = .ok (.istore 8, 2) := by decide +kernel
theorem dX12_foretold_82 : decode cX12_foretold 82 = .ok (.iload 7, 2) := by decide +kernel
theorem dX12_foretold_84 : decode cX12_foretold 84 = .ok (.iload_n 1, 1) := by decide +kernel
theorem dX12_foretold_85 : decode cX12_foretold 85 = .ok (.if_icmp .eq 130, 3) := by decide +kernel
theorem dX12_foretold_88 : decode cX12_foretold 88 = .ok (.aload_n 0, 1) := by decide +kernel
theorem dX12_foretold_89 : decode cX12_foretold 89 = .ok (.getfield 7, 3) := by decide +kernel
theorem dX12_foretold_92 : decode cX12_foretold 92 = .ok (.iload 8, 2) := by decide +kernel
theorem dX12_foretold_94 : decode cX12_foretold 94 = .ok (.iaload, 1) := by decide +kernel
theorem dX12_foretold_95 : decode cX12_foretold 95 = .ok (.aload_n 0, 1) := by decide +kernel
theorem dX12_foretold_96 : decode cX12_foretold 96 = .ok (.getfield 7, 3) := by decide +kernel
theorem dX12_foretold_99 : decode cX12_foretold 99 = .ok (.iload_n 3, 1) := by decide +kernel
theorem dX12_foretold_100 : decode cX12_foretold 100 = .ok (.iaload, 1) := by decide +kernel
theorem dX12_foretold_101 : decode cX12_foretold 101 = .ok (.if_icmp .ne 114, 3) := by decide +kernel
theorem dX12_foretold_104 : decode cX12_foretold 104 = .ok (.aload_n 0, 1) := by decide +kernel
theorem dX12_foretold_105 : decode cX12_foretold 105 = .ok (.getfield 7, 3) := by decide +kernel
theorem dX12_foretold_108 : decode cX12_foretold 108 = .ok (.iload 8, 2) := by decide +kernel
theorem dX12_foretold_110 : decode cX12_foretold 110 = .ok (.iconst 4, 1) := by decide +kernel
theorem dX12_foretold_111 : decode cX12_foretold 111 = .ok (.iadd, 1) := by decide +kernel
theorem dX12_foretold_112 : decode cX12_foretold 112 = .ok (.iaload, 1) := by decide +kernel
theorem dX12_foretold_113 : decode cX12_foretold 113 = .ok (.iconst 5, 1) := by decide +kernel
theorem dX12_foretold_114 : decode cX12_foretold 114 = .ok (.if_icmp .ne 101, 3) := by decide +kernel
theorem dX12_foretold_117 : decode cX12_foretold 117 = .ok (.aload_n 0, 1) := by decide +kernel
theorem dX12_foretold_118 : decode cX12_foretold 118 = .ok (.getfield 7, 3) := by decide +kernel
theorem dX12_foretold_121 : decode cX12_foretold 121 = .ok (.iload 8, 2) := by decide +kernel
theorem dX12_foretold_123 : decode cX12_foretold 123 = .ok (.iconst 4, 1) := by decide +kernel
theorem dX12_foretold_124 : decode cX12_foretold 124 = .ok (.iadd, 1) := by decide +kernel
theorem dX12_foretold_125 : decode cX12_foretold 125 = .ok (.iload 4, 2) := by decide +kernel
theorem dX12_foretold_127 : decode cX12_foretold 127 = .ok (.iadd, 1) := by decide +kernel
theorem dX12_foretold_128 : decode cX12_foretold 128 = .ok (.iaload, 1) := by decide +kernel
theorem dX12_foretold_129 : decode cX12_foretold 129 = .ok (.ifCond .gt 6, 3) := by decide +kernel
theorem dX12_foretold_132 : decode cX12_foretold 132 = .ok (.goto 83, 3) := by decide +kernel
theorem dX12_foretold_135 : decode cX12_foretold 135 = .ok (.aload_n 0, 1) := by decide +kernel
theorem dX12_foretold_136 : decode cX12_foretold 136 = .ok (.getfield 7, 3) := by decide +kernel
theorem dX12_foretold_139 : decode cX12_foretold 139 = .ok (.iload_n 3, 1) := by decide +kernel
theorem dX12_foretold_140 : decode cX12_foretold 140 = .ok (.iconst 4, 1) := by decide +kernel
theorem dX12_foretold_141 : decode cX12_foretold 141 = .ok (.iadd, 1) := by decide +kernel
theorem dX12_foretold_142 : decode cX12_foretold 142 = .ok (.iload 4, 2) := by decide +kernel
theorem dX12_foretold_144 : decode cX12_foretold 144 = .ok (.iadd, 1) := by decide +kernel
theorem dX12_foretold_145 : decode cX12_foretold 145 = .ok (.iaload, 1) := by decide +kernel
theorem dX12_foretold_146 : decode cX12_foretold 146 = .ok (.i2l, 1) := by decide +kernel
theorem dX12_foretold_147 : decode cX12_foretold 147 = .ok (.aload_n 0, 1) := by decide +kernel
theorem dX12_foretold_148 : decode cX12_foretold 148 = .ok (.getfield 7, 3) := by decide +kernel
theorem dX12_foretold_151 : decode cX12_foretold 151 = .ok (.iload 8, 2) := by decide +kernel
theorem dX12_foretold_153 : decode cX12_foretold 153 = .ok (.iconst 4, 1) := by decide +kernel
theorem dX12_foretold_154 : decode cX12_foretold 154 = .ok (.iadd, 1) := by decide +kernel
theorem dX12_foretold_155 : decode cX12_foretold 155 = .ok (.iconst 5, 1) := by decide +kernel
theorem dX12_foretold_156 : decode cX12_foretold 156 = .ok (.iadd, 1) := by decide +kernel
theorem dX12_foretold_157 : decode cX12_foretold 157 = .ok (.iaload, 1) := by decide +kernel
theorem dX12_foretold_158 : decode cX12_foretold 158 = .ok (.i2l, 1) := by decide +kernel
theorem dX12_foretold_159 : decode cX12_foretold 159 = .ok (.lmul, 1) := by decide +kernel
theorem dX12_foretold_160 : decode cX12_foretold 160 = .ok (.aload_n 0, 1) := by decide +kernel
theorem dX12_foretold_161 : decode cX12_foretold 161 = .ok (.getfield 7, 3) := by decide +kernel
theorem dX12_foretold_164 : decode cX12_foretold 164 = .ok (.iload 8, 2) := by decide +kernel
theorem dX12_foretold_166 : decode cX12_foretold 166 = .ok (.iconst 4, 1) := by decide +kernel
theorem dX12_foretold_167 : decode cX12_foretold 167 = .ok (.iadd, 1) := by decide +kernel
theorem dX12_foretold_168 : decode cX12_foretold 168 = .ok (.iload 4, 2) := by decide +kernel
theorem dX12_foretold_170 : decode cX12_foretold 170 = .ok (.iadd, 1) := by decide +kernel
theorem dX12_foretold_171 : decode cX12_foretold 171 = .ok (.iaload, 1) := by decide +kernel
theorem dX12_foretold_172 : decode cX12_foretold 172 = .ok (.i2l, 1) := by decide +kernel
theorem dX12_foretold_173 : decode cX12_foretold 173 = .ok (.ldiv, 1) := by decide +kernel
theorem dX12_foretold_174 : decode cX12_foretold 174 = .ok (.lstore 9, 2) := by decide +kernel
theorem dX12_foretold_176 : decode cX12_foretold 176 = .ok (.lload 5, 2) := by decide +kernel
theorem dX12_foretold_178 : decode cX12_foretold 178 = .ok (.lconst 0, 1) := by decide +kernel
theorem dX12_foretold_179 : decode cX12_foretold 179 = .ok (.lcmp, 1) := by decide +kernel
theorem dX12_foretold_180 : decode cX12_foretold 180 = .ok (.ifCond .lt 26, 3) := by decide +kernel
theorem dX12_foretold_183 : decode cX12_foretold 183 = .ok (.iload_n 2, 1) := by decide +kernel
theorem dX12_foretold_184 : decode cX12_foretold 184 = .ok (.ifCond .ne 14, 3) := by decide +kernel
theorem dX12_foretold_187 : decode cX12_foretold 187 = .ok (.lload 9, 2) := by decide +kernel
theorem dX12_foretold_189 : decode cX12_foretold 189 = .ok (.lload 5, 2) := by decide +kernel
theorem dX12_foretold_191 : decode cX12_foretold 191 = .ok (.lcmp, 1) := by decide +kernel
theorem dX12_foretold_192 : decode cX12_foretold 192 = .ok (.ifCond .ge 19, 3) := by decide +kernel
theorem dX12_foretold_195 : decode cX12_foretold 195 = .ok (.goto 11, 3) := by decide +kernel
theorem dX12_foretold_198 : decode cX12_foretold 198 = .ok (.lload 9, 2) := by decide +kernel
theorem dX12_foretold_200 : decode cX12_foretold 200 = .ok (.lload 5, 2) := by decide +kernel
theorem dX12_foretold_202 : decode cX12_foretold 202 = .ok (.lcmp, 1) := by decide +kernel
theorem dX12_foretold_203 : decode cX12_foretold 203 = .ok (.ifCond .le 8, 3) := by decide +kernel
theorem dX12_foretold_206 : decode cX12_foretold 206 = .ok (.lload 9, 2) := by decide +kernel
theorem dX12_foretold_208 : decode cX12_foretold 208 = .ok (.goto 5, 3) := by decide +kernel
theorem dX12_foretold_211 : decode cX12_foretold 211 = .ok (.lload 5, 2) := by decide +kernel
theorem dX12_foretold_213 : decode cX12_foretold 213 = .ok (.lstore 5, 2) := by decide +kernel
theorem dX12_foretold_215 : decode cX12_foretold 215 = .ok (.iinc 7 1, 3) := by decide +kernel
theorem dX12_foretold_218 : decode cX12_foretold 218 = .ok (.goto (-158), 3) := by decide +kernel
theorem dX12_foretold_221 : decode cX12_foretold 221 = .ok (.lload 5, 2) := by decide +kernel
theorem dX12_foretold_223 : decode cX12_foretold 223 = .ok (.lconst 0, 1) := by decide +kernel
theorem dX12_foretold_224 : decode cX12_foretold 224 = .ok (.lcmp, 1) := by decide +kernel
theorem dX12_foretold_225 : decode cX12_foretold 225 = .ok (.ifCond .ge 8, 3) := by decide +kernel
theorem dX12_foretold_228 : decode cX12_foretold 228 = .ok (.ldc 67, 2) := by decide +kernel
theorem dX12_foretold_230 : decode cX12_foretold 230 = .ok (.goto 20, 3) := by decide +kernel
theorem dX12_foretold_233 : decode cX12_foretold 233 = .ok (.lload 5, 2) := by decide +kernel
theorem dX12_foretold_235 : decode cX12_foretold 235 = .ok (.ldc2_w 250, 3) := by decide +kernel
theorem dX12_foretold_238 : decode cX12_foretold 238 = .ok (.lcmp, 1) := by decide +kernel
theorem dX12_foretold_239 : decode cX12_foretold 239 = .ok (.ifCond .le 8, 3) := by decide +kernel
theorem dX12_foretold_242 : decode cX12_foretold 242 = .ok (.ldc 252, 2) := by decide +kernel
theorem dX12_foretold_244 : decode cX12_foretold 244 = .ok (.goto 6, 3) := by decide +kernel
theorem dX12_foretold_247 : decode cX12_foretold 247 = .ok (.lload 5, 2) := by decide +kernel
theorem dX12_foretold_249 : decode cX12_foretold 249 = .ok (.l2i, 1) := by decide +kernel
theorem dX12_foretold_250 : decode cX12_foretold 250 = .ok (.ireturn, 1) := by decide +kernel
theorem dX12_task_0 : decode cX12_task 0 = .ok (.aload_n 0, 1) := by decide +kernel
theorem dX12_task_1 : decode cX12_task 1 = .ok (.iload_n 1, 1) := by decide +kernel
theorem dX12_task_2 : decode cX12_task 2 = .ok (.invokevirtual 82, 3) := by decide +kernel
theorem dX12_task_5 : decode cX12_task 5 = .ok (.ifCond .eq 23, 3) := by decide +kernel
theorem dX12_task_8 : decode cX12_task 8 = .ok (.iload_n 2, 1) := by decide +kernel
theorem dX12_task_9 : decode cX12_task 9 = .ok (.iconst 1, 1) := by decide +kernel
theorem dX12_task_10 : decode cX12_task 10 = .ok (.sipush 999, 3) := by decide +kernel
theorem dX12_task_13 : decode cX12_task 13 = .ok (.invokestatic 68, 3) := by decide +kernel
theorem dX12_task_16 : decode cX12_task 16 = .ok (.ifCond .eq 12, 3) := by decide +kernel
theorem dX12_task_19 : decode cX12_task 19 = .ok (.iload_n 3, 1) := by decide +kernel
theorem dX12_task_20 : decode cX12_task 20 = .ok (.iconst 0, 1) := by decide +kernel
theorem dX12_task_21 : decode cX12_task 21 = .ok (.iconst 2, 1) := by decide +kernel
theorem dX12_task_22 : decode cX12_task 22 = .ok (.invokestatic 68, 3) := by decide +kernel
theorem dX12_task_25 : decode cX12_task 25 = .ok (.ifCond .ne 6, 3) := by decide +kernel
theorem dX12_task_28 : decode cX12_task 28 = .ok (.ldc 72, 2) := by decide +kernel
theorem dX12_task_30 : decode cX12_task 30 = .ok (.ireturn, 1) := by decide +kernel
theorem dX12_task_31 : decode cX12_task 31 = .ok (.aload_n 0, 1) := by decide +kernel
theorem dX12_task_32 : decode cX12_task 32 = .ok (.getfield 7, 3) := by decide +kernel
theorem dX12_task_35 : decode cX12_task 35 = .ok (.bipush 11, 2) := by decide +kernel
theorem dX12_task_37 : decode cX12_task 37 = .ok (.iaload, 1) := by decide +kernel
theorem dX12_task_38 : decode cX12_task 38 = .ok (.bipush 6, 2) := by decide +kernel
theorem dX12_task_40 : decode cX12_task 40 = .ok (.if_icmp .ne 6, 3) := by decide +kernel
theorem dX12_task_43 : decode cX12_task 43 = .ok (.ldc 73, 2) := by decide +kernel
theorem dX12_task_45 : decode cX12_task 45 = .ok (.ireturn, 1) := by decide +kernel
theorem dX12_task_46 : decode cX12_task 46 = .ok (.sipush 1822, 3) := by decide +kernel
theorem dX12_task_49 : decode cX12_task 49 = .ok (.iconst 3, 1) := by decide +kernel
theorem dX12_task_50 : decode cX12_task 50 = .ok (.aload_n 0, 1) := by decide +kernel
theorem dX12_task_51 : decode cX12_task 51 = .ok (.getfield 7, 3) := by decide +kernel
theorem dX12_task_54 : decode cX12_task 54 = .ok (.bipush 11, 2) := by decide +kernel
theorem dX12_task_56 : decode cX12_task 56 = .ok (.iaload, 1) := by decide +kernel
theorem dX12_task_57 : decode cX12_task 57 = .ok (.imul, 1) := by decide +kernel
theorem dX12_task_58 : decode cX12_task 58 = .ok (.iadd, 1) := by decide +kernel
theorem dX12_task_59 : decode cX12_task 59 = .ok (.istore 4, 2) := by decide +kernel
theorem dX12_task_61 : decode cX12_task 61 = .ok (.aload_n 0, 1) := by decide +kernel
theorem dX12_task_62 : decode cX12_task 62 = .ok (.getfield 7, 3) := by decide +kernel
theorem dX12_task_65 : decode cX12_task 65 = .ok (.iload 4, 2) := by decide +kernel
theorem dX12_task_67 : decode cX12_task 67 = .ok (.iload_n 1, 1) := by decide +kernel
theorem dX12_task_68 : decode cX12_task 68 = .ok (.iastore, 1) := by decide +kernel
theorem dX12_task_69 : decode cX12_task 69 = .ok (.aload_n 0, 1) := by decide +kernel
theorem dX12_task_70 : decode cX12_task 70 = .ok (.getfield 7, 3) := by decide +kernel
theorem dX12_task_73 : decode cX12_task 73 = .ok (.iload 4, 2) := by decide +kernel
theorem dX12_task_75 : decode cX12_task 75 = .ok (.iconst 1, 1) := by decide +kernel
theorem dX12_task_76 : decode cX12_task 76 = .ok (.iadd, 1) := by decide +kernel
theorem dX12_task_77 : decode cX12_task 77 = .ok (.iload_n 2, 1) := by decide +kernel
theorem dX12_task_78 : decode cX12_task 78 = .ok (.iastore, 1) := by decide +kernel
theorem dX12_task_79 : decode cX12_task 79 = .ok (.aload_n 0, 1) := by decide +kernel
theorem dX12_task_80 : decode cX12_task 80 = .ok (.getfield 7, 3) := by decide +kernel
theorem dX12_task_83 : decode cX12_task 83 = .ok (.iload 4, 2) := by decide +kernel
theorem dX12_task_85 : decode cX12_task 85 = .ok (.iconst 2, 1) := by decide +kernel
theorem dX12_task_86 : decode cX12_task 86 = .ok (.iadd, 1) := by decide +kernel
theorem dX12_task_87 : decode cX12_task 87 = .ok (.iload_n 3, 1) := by decide +kernel
theorem dX12_task_88 : decode cX12_task 88 = .ok (.iastore, 1) := by decide +kernel
theorem dX12_task_89 : decode cX12_task 89 = .ok (.aload_n 0, 1) := by decide +kernel
theorem dX12_task_90 : decode cX12_task 90 = .ok (.getfield 7, 3) := by decide +kernel
theorem dX12_task_93 : decode cX12_task 93 = .ok (.bipush 11, 2) := by decide +kernel
theorem dX12_task_95 : decode cX12_task 95 = .ok (.dup2, 1) := by decide +kernel
theorem dX12_task_96 : decode cX12_task 96 = .ok (.iaload, 1) := by decide +kernel
theorem dX12_task_97 : decode cX12_task 97 = .ok (.iconst 1, 1) := by decide +kernel
theorem dX12_task_98 : decode cX12_task 98 = .ok (.iadd, 1) := by decide +kernel
theorem dX12_task_99 : decode cX12_task 99 = .ok (.iastore, 1) := by decide +kernel
theorem dX12_task_100 : decode cX12_task 100 = .ok (.aload_n 0, 1) := by decide +kernel
theorem dX12_task_101 : decode cX12_task 101 = .ok (.getfield 7, 3) := by decide +kernel
theorem dX12_task_104 : decode cX12_task 104 = .ok (.bipush 11, 2) := by decide +kernel
theorem dX12_task_106 : decode cX12_task 106 = .ok (.iaload, 1) := by decide +kernel
theorem dX12_task_107 : decode cX12_task 107 = .ok (.iconst 1, 1) := by decide +kernel
theorem dX12_task_108 : decode cX12_task 108 = .ok (.isub, 1) := by decide +kernel
theorem dX12_task_109 : decode cX12_task 109 = .ok (.ireturn, 1) := by decide +kernel
theorem dX12_clear_0 : decode cX12_clear 0 = .ok (.aload_n 0, 1) := by decide +kernel
theorem dX12_clear_1 : decode cX12_clear 1 = .ok (.getfield 7, 3) := by decide +kernel
theorem dX12_clear_4 : decode cX12_clear 4 = .ok (.bipush 11, 2) := by decide +kernel
theorem dX12_clear_6 : decode cX12_clear 6 = .ok (.iaload, 1) := by decide +kernel
theorem dX12_clear_7 : decode cX12_clear 7 = .ok (.istore_n 1, 1) := by decide +kernel
theorem dX12_clear_8 : decode cX12_clear 8 = .ok (.aload_n 0, 1) := by decide +kernel
theorem dX12_clear_9 : decode cX12_clear 9 = .ok (.getfield 7, 3) := by decide +kernel
theorem dX12_clear_12 : decode cX12_clear 12 = .ok (.bipush 11, 2) := by decide +kernel
theorem dX12_clear_14 : decode cX12_clear 14 = .ok (.iconst 0, 1) := by decide +kernel
theorem dX12_clear_15 : decode cX12_clear 15 = .ok (.iastore, 1) := by decide +kernel
theorem dX12_clear_16 : decode cX12_clear 16 = .ok (.iload_n 1, 1) := by decide +kernel
theorem dX12_clear_17 : decode cX12_clear 17 = .ok (.ireturn, 1) := by decide +kernel
theorem dX12_free_0 : decode cX12_free 0 = .ok (.aload_n 0, 1) := by decide +kernel
theorem dX12_free_1 : decode cX12_free 1 = .ok (.iload_n 1, 1) := by decide +kernel
theorem dX12_free_2 : decode cX12_free 2 = .ok (.invokevirtual 74, 3) := by decide +kernel
theorem dX12_free_5 : decode cX12_free 5 = .ok (.ifCond .eq 14, 3) := by decide +kernel
theorem dX12_free_8 : decode cX12_free 8 = .ok (.iload_n 2, 1) := by decide +kernel
theorem dX12_free_9 : decode cX12_free 9 = .ok (.iconst 0, 1) := by decide +kernel
theorem dX12_free_10 : decode cX12_free 10 = .ok (.sipush 9999, 3) := by decide +kernel
theorem dX12_free_13 : decode cX12_free 13 = .ok (.invokestatic 68, 3) := by decide +kernel
theorem dX12_free_16 : decode cX12_free 16 = .ok (.ifCond .ne 6, 3) := by decide +kernel
theorem dX12_free_19 : decode cX12_free 19 = .ok (.ldc 72, 2) := by decide +kernel
theorem dX12_free_21 : decode cX12_free 21 = .ok (.ireturn, 1) := by decide +kernel
theorem dX12_free_22 : decode cX12_free 22 = .ok (.aload_n 0, 1) := by decide +kernel
theorem dX12_free_23 : decode cX12_free 23 = .ok (.getfield 7, 3) := by decide +kernel
theorem dX12_free_26 : decode cX12_free 26 = .ok (.bipush 20, 2) := by decide +kernel
theorem dX12_free_28 : decode cX12_free 28 = .ok (.iconst 3, 1) := by decide +kernel
theorem dX12_free_29 : decode cX12_free 29 = .ok (.iload_n 1, 1) := by decide +kernel
theorem dX12_free_30 : decode cX12_free 30 = .ok (.imul, 1) := by decide +kernel
theorem dX12_free_31 : decode cX12_free 31 = .ok (.iadd, 1) := by decide +kernel
theorem dX12_free_32 : decode cX12_free 32 = .ok (.iconst 2, 1) := by decide +kernel
theorem dX12_free_33 : decode cX12_free 33 = .ok (.iadd, 1) := by decide +kernel
theorem dX12_free_34 : decode cX12_free 34 = .ok (.iaload, 1) := by decide +kernel
theorem dX12_free_35 : decode cX12_free 35 = .ok (.istore_n 3, 1) := by decide +kernel
theorem dX12_free_36 : decode cX12_free 36 = .ok (.aload_n 0, 1) := by decide +kernel
theorem dX12_free_37 : decode cX12_free 37 = .ok (.getfield 7, 3) := by decide +kernel
theorem dX12_free_40 : decode cX12_free 40 = .ok (.bipush 20, 2) := by decide +kernel
theorem dX12_free_42 : decode cX12_free 42 = .ok (.iconst 3, 1) := by decide +kernel
theorem dX12_free_43 : decode cX12_free 43 = .ok (.iload_n 1, 1) := by decide +kernel
theorem dX12_free_44 : decode cX12_free 44 = .ok (.imul, 1) := by decide +kernel
theorem dX12_free_45 : decode cX12_free 45 = .ok (.iadd, 1) := by decide +kernel
theorem dX12_free_46 : decode cX12_free 46 = .ok (.iconst 2, 1) := by decide +kernel
theorem dX12_free_47 : decode cX12_free 47 = .ok (.iadd, 1) := by decide +kernel
theorem dX12_free_48 : decode cX12_free 48 = .ok (.iload_n 2, 1) := by decide +kernel
theorem dX12_free_49 : decode cX12_free 49 = .ok (.iastore, 1) := by decide +kernel
theorem dX12_free_50 : decode cX12_free 50 = .ok (.iload_n 3, 1) := by decide +kernel
theorem dX12_free_51 : decode cX12_free 51 = .ok (.ireturn, 1) := by decide +kernel
theorem dX12_lay_0 : decode cX12_lay 0 = .ok (.iload_n 1, 1) := by decide +kernel
theorem dX12_lay_1 : decode cX12_lay 1 = .ok (.iconst 0, 1) := by decide +kernel
theorem dX12_lay_2 : decode cX12_lay 2 = .ok (.iconst 1, 1) := by decide +kernel
theorem dX12_lay_3 : decode cX12_lay 3 = .ok (.invokestatic 68, 3) := by decide +kernel
theorem dX12_lay_6 : decode cX12_lay 6 = .ok (.ifCond .ne 6, 3) := by decide +kernel
theorem dX12_lay_9 : decode cX12_lay 9 = .ok (.ldc 72, 2) := by decide +kernel
theorem dX12_lay_11 : decode cX12_lay 11 = .ok (.ireturn, 1) := by decide +kernel
theorem dX12_lay_12 : decode cX12_lay 12 = .ok (.aload_n 0, 1) := by decide +kernel
theorem dX12_lay_13 : decode cX12_lay 13 = .ok (.getfield 61, 3) := by decide +kernel
theorem dX12_lay_16 : decode cX12_lay 16 = .ok (.iload_n 1, 1) := by decide +kernel
theorem dX12_lay_17 : decode cX12_lay 17 = .ok (.iaload, 1) := by decide +kernel
theorem dX12_lay_18 : decode cX12_lay 18 = .ok (.iconst (-1), 1) := by decide +kernel
theorem dX12_lay_19 : decode cX12_lay 19 = .ok (.if_icmp .ne 6, 3) := by decide +kernel
theorem dX12_lay_22 : decode cX12_lay 22 = .ok (.ldc 253, 2) := by decide +kernel
theorem dX12_lay_24 : decode cX12_lay 24 = .ok (.ireturn, 1) := by decide +kernel
theorem dX12_lay_25 : decode cX12_lay 25 = .ok (.aload_n 0, 1) := by decide +kernel
theorem dX12_lay_26 : decode cX12_lay 26 = .ok (.getfield 61, 3) := by decide +kernel
theorem dX12_lay_29 : decode cX12_lay 29 = .ok (.iload_n 1, 1) := by decide +kernel
theorem dX12_lay_30 : decode cX12_lay 30 = .ok (.iaload, 1) := by decide +kernel
theorem dX12_lay_31 : decode cX12_lay 31 = .ok (.aload_n 0, 1) := by decide +kernel
theorem dX12_lay_32 : decode cX12_lay 32 = .ok (.getfield 7, 3) := by decide +kernel
theorem dX12_lay_35 : decode cX12_lay 35 = .ok (.iconst 4, 1) := by decide +kernel
theorem dX12_lay_36 : decode cX12_lay 36 = .ok (.iaload, 1) := by decide +kernel
theorem dX12_lay_37 : decode cX12_lay 37 = .ok (.invokestatic 218, 3) := by decide +kernel
theorem dX12_lay_40 : decode cX12_lay 40 = .ok (.istore_n 2, 1) := by decide +kernel
theorem dX12_lay_41 : decode cX12_lay 41 = .ok (.iconst 0, 1) := by decide +kernel
theorem dX12_lay_42 : decode cX12_lay 42 = .ok (.istore_n 3, 1) := by decide +kernel
theorem dX12_lay_43 : decode cX12_lay 43 = .ok (.iload_n 3, 1) := by decide +kernel
theorem dX12_lay_44 : decode cX12_lay 44 = .ok (.iload_n 2, 1) := by decide +kernel
theorem dX12_lay_45 : decode cX12_lay 45 = .ok (.if_icmp .ge 43, 3) := by decide +kernel
theorem dX12_lay_48 : decode cX12_lay 48 = .ok (.aload_n 0, 1) := by decide +kernel
theorem dX12_lay_49 : decode cX12_lay 49 = .ok (.getfield 7, 3) := by decide +kernel
theorem dX12_lay_52 : decode cX12_lay 52 = .ok (.bipush 20, 2) := by decide +kernel
theorem dX12_lay_54 : decode cX12_lay 54 = .ok (.iconst 3, 1) := by decide +kernel
theorem dX12_lay_55 : decode cX12_lay 55 = .ok (.iload_n 3, 1) := by decide +kernel
theorem dX12_lay_56 : decode cX12_lay 56 = .ok (.imul, 1) := by decide +kernel
theorem dX12_lay_57 : decode cX12_lay 57 = .ok (.iadd, 1) := by decide +kernel
theorem dX12_lay_58 : decode cX12_lay 58 = .ok (.iconst 2, 1) := by decide +kernel
theorem dX12_lay_59 : decode cX12_lay 59 = .ok (.iadd, 1) := by decide +kernel
theorem dX12_lay_60 : decode cX12_lay 60 = .ok (.sipush 9999, 3) := by decide +kernel
theorem dX12_lay_63 : decode cX12_lay 63 = .ok (.iconst 0, 1) := by decide +kernel
theorem dX12_lay_64 : decode cX12_lay 64 = .ok (.aload_n 0, 1) := by decide +kernel
theorem dX12_lay_65 : decode cX12_lay 65 = .ok (.getfield 58, 3) := by decide +kernel
theorem dX12_lay_68 : decode cX12_lay 68 = .ok (.bipush 20, 2) := by decide +kernel
theorem dX12_lay_70 : decode cX12_lay 70 = .ok (.iload_n 1, 1) := by decide +kernel
theorem dX12_lay_71 : decode cX12_lay 71 = .ok (.imul, 1) := by decide +kernel
theorem dX12_lay_72 : decode cX12_lay 72 = .ok (.iload_n 3, 1) := by decide +kernel
theorem dX12_lay_73 : decode cX12_lay 73 = .ok (.iadd, 1) := by decide +kernel
theorem dX12_lay_74 : decode cX12_lay 74 = .ok (.iaload, 1) := by decide +kernel
theorem dX12_lay_75 : decode cX12_lay 75 = .ok (.invokestatic 105, 3) := by decide +kernel
theorem dX12_lay_78 : decode cX12_lay 78 = .ok (.invokestatic 218, 3) := by decide +kernel
theorem dX12_lay_81 : decode cX12_lay 81 = .ok (.iastore, 1) := by decide +kernel
theorem dX12_lay_82 : decode cX12_lay 82 = .ok (.iinc 3 1, 3) := by decide +kernel
theorem dX12_lay_85 : decode cX12_lay 85 = .ok (.goto (-42), 3) := by decide +kernel
theorem dX12_lay_88 : decode cX12_lay 88 = .ok (.iload_n 2, 1) := by decide +kernel
theorem dX12_lay_89 : decode cX12_lay 89 = .ok (.ireturn, 1) := by decide +kernel
theorem dX12_costOf_0 : decode cX12_costOf 0 = .ok (.aload_n 0, 1) := by decide +kernel
theorem dX12_costOf_1 : decode cX12_costOf 1 = .ok (.getfield 7, 3) := by decide +kernel
theorem dX12_costOf_4 : decode cX12_costOf 4 = .ok (.sipush 1822, 3) := by decide +kernel
theorem dX12_costOf_7 : decode cX12_costOf 7 = .ok (.iconst 3, 1) := by decide +kernel
theorem dX12_costOf_8 : decode cX12_costOf 8 = .ok (.iload_n 1, 1) := by decide +kernel
theorem dX12_costOf_9 : decode cX12_costOf 9 = .ok (.imul, 1) := by decide +kernel
theorem dX12_costOf_10 : decode cX12_costOf 10 = .ok (.iadd, 1) := by decide +kernel
theorem dX12_costOf_11 : decode cX12_costOf 11 = .ok (.iconst 1, 1) := by decide +kernel
theorem dX12_costOf_12 : decode cX12_costOf 12 = .ok (.iadd, 1) := by decide +kernel
theorem dX12_costOf_13 : decode cX12_costOf 13 = .ok (.iaload, 1) := by decide +kernel
theorem dX12_costOf_14 : decode cX12_costOf 14 = .ok (.aload_n 0, 1) := by decide +kernel
theorem dX12_costOf_15 : decode cX12_costOf 15 = .ok (.getfield 7, 3) := by decide +kernel
theorem dX12_costOf_18 : decode cX12_costOf 18 = .ok (.bipush 20, 2) := by decide +kernel
theorem dX12_costOf_20 : decode cX12_costOf 20 = .ok (.iconst 3, 1) := by decide +kernel
theorem dX12_costOf_21 : decode cX12_costOf 21 = .ok (.iload_n 2, 1) := by decide +kernel
theorem dX12_costOf_22 : decode cX12_costOf 22 = .ok (.imul, 1) := by decide +kernel
theorem dX12_costOf_23 : decode cX12_costOf 23 = .ok (.iadd, 1) := by decide +kernel
theorem dX12_costOf_24 : decode cX12_costOf 24 = .ok (.iconst 1, 1) := by decide +kernel
theorem dX12_costOf_25 : decode cX12_costOf 25 = .ok (.iadd, 1) := by decide +kernel
theorem dX12_costOf_26 : decode cX12_costOf 26 = .ok (.iaload, 1) := by decide +kernel
theorem dX12_costOf_27 : decode cX12_costOf 27 = .ok (.imul, 1) := by decide +kernel
theorem dX12_costOf_28 : decode cX12_costOf 28 = .ok (.bipush 10, 2) := by decide +kernel
theorem dX12_costOf_30 : decode cX12_costOf 30 = .ok (.idiv, 1) := by decide +kernel
theorem dX12_costOf_31 : decode cX12_costOf 31 = .ok (.ireturn, 1) := by decide +kernel
theorem dX12_may_0 : decode cX12_may 0 = .ok (.aload_n 0, 1) := by decide +kernel
theorem dX12_may_1 : decode cX12_may 1 = .ok (.getfield 7, 3) := by decide +kernel
theorem dX12_may_4 : decode cX12_may 4 = .ok (.bipush 20, 2) := by decide +kernel
theorem dX12_may_6 : decode cX12_may 6 = .ok (.iconst 3, 1) := by decide +kernel
theorem dX12_may_7 : decode cX12_may 7 = .ok (.iload_n 2, 1) := by decide +kernel
theorem dX12_may_8 : decode cX12_may 8 = .ok (.imul, 1) := by decide +kernel
theorem dX12_may_9 : decode cX12_may 9 = .ok (.iadd, 1) := by decide +kernel
theorem dX12_may_10 : decode cX12_may 10 = .ok (.iaload, 1) := by decide +kernel
theorem dX12_may_11 : decode cX12_may 11 = .ok (.istore_n 3, 1) := by decide +kernel
theorem dX12_may_12 : decode cX12_may 12 = .ok (.aload_n 0, 1) := by decide +kernel
theorem dX12_may_13 : decode cX12_may 13 = .ok (.getfield 7, 3) := by decide +kernel
theorem dX12_may_16 : decode cX12_may 16 = .ok (.sipush 1822, 3) := by decide +kernel
theorem dX12_may_19 : decode cX12_may 19 = .ok (.iconst 3, 1) := by decide +kernel
theorem dX12_may_20 : decode cX12_may 20 = .ok (.iload_n 1, 1) := by decide +kernel
theorem dX12_may_21 : decode cX12_may 21 = .ok (.imul, 1) := by decide +kernel
theorem dX12_may_22 : decode cX12_may 22 = .ok (.iadd, 1) := by decide +kernel
theorem dX12_may_23 : decode cX12_may 23 = .ok (.iconst 2, 1) := by decide +kernel
theorem dX12_may_24 : decode cX12_may 24 = .ok (.iadd, 1) := by decide +kernel
theorem dX12_may_25 : decode cX12_may 25 = .ok (.iaload, 1) := by decide +kernel
theorem dX12_may_26 : decode cX12_may 26 = .ok (.istore 4, 2) := by decide +kernel
theorem dX12_may_28 : decode cX12_may 28 = .ok (.iload 4, 2) := by decide +kernel
theorem dX12_may_30 : decode cX12_may 30 = .ok (.ifCond .eq 26, 3) := by decide +kernel
theorem dX12_may_33 : decode cX12_may 33 = .ok (.iload 4, 2) := by decide +kernel
theorem dX12_may_35 : decode cX12_may 35 = .ok (.iconst 1, 1) := by decide +kernel
theorem dX12_may_36 : decode cX12_may 36 = .ok (.if_icmp .ne 15, 3) := by decide +kernel
theorem dX12_may_39 : decode cX12_may 39 = .ok (.iload_n 3, 1) := by decide +kernel
theorem dX12_may_40 : decode cX12_may 40 = .ok (.iconst 1, 1) := by decide +kernel
theorem dX12_may_41 : decode cX12_may 41 = .ok (.iconst 2, 1) := by decide +kernel
theorem dX12_may_42 : decode cX12_may 42 = .ok (.invokestatic 68, 3) := by decide +kernel
theorem dX12_may_45 : decode cX12_may 45 = .ok (.ifCond .eq 15, 3) := by decide +kernel
theorem dX12_may_48 : decode cX12_may 48 = .ok (.goto 8, 3) := by decide +kernel
theorem dX12_may_51 : decode cX12_may 51 = .ok (.iload_n 3, 1) := by decide +kernel
theorem dX12_may_52 : decode cX12_may 52 = .ok (.iconst 2, 1) := by decide +kernel
theorem dX12_may_53 : decode cX12_may 53 = .ok (.if_icmp .ne 7, 3) := by decide +kernel
theorem dX12_may_56 : decode cX12_may 56 = .ok (.iconst 1, 1) := by decide +kernel
theorem dX12_may_57 : decode cX12_may 57 = .ok (.goto 4, 3) := by decide +kernel
theorem dX12_may_60 : decode cX12_may 60 = .ok (.iconst 0, 1) := by decide +kernel
theorem dX12_may_61 : decode cX12_may 61 = .ok (.istore 5, 2) := by decide +kernel
theorem dX12_may_63 : decode cX12_may 63 = .ok (.iload 5, 2) := by decide +kernel
theorem dX12_may_65 : decode cX12_may 65 = .ok (.ifCond .eq 63, 3) := by decide +kernel
theorem dX12_may_68 : decode cX12_may 68 = .ok (.aload_n 0, 1) := by decide +kernel
theorem dX12_may_69 : decode cX12_may 69 = .ok (.getfield 7, 3) := by decide +kernel
theorem dX12_may_72 : decode cX12_may 72 = .ok (.bipush 50, 2) := by decide +kernel
theorem dX12_may_74 : decode cX12_may 74 = .ok (.bipush 20, 2) := by decide +kernel
theorem dX12_may_76 : decode cX12_may 76 = .ok (.aload_n 0, 1) := by decide +kernel
theorem dX12_may_77 : decode cX12_may 77 = .ok (.getfield 7, 3) := by decide +kernel
theorem dX12_may_80 : decode cX12_may 80 = .ok (.sipush 1822, 3) := by decide +kernel
theorem dX12_may_83 : decode cX12_may 83 = .ok (.iconst 3, 1) := by decide +kernel
theorem dX12_may_84 : decode cX12_may 84 = .ok (.iload_n 1, 1) := by decide +kernel
theorem dX12_may_85 : decode cX12_may 85 = .ok (.imul, 1) := by decide +kernel
theorem dX12_may_86 : decode cX12_may 86 = .ok (.iadd, 1) := by decide +kernel
theorem dX12_may_87 : decode cX12_may 87 = .ok (.iaload, 1) := by decide +kernel
theorem dX12_may_88 : decode cX12_may 88 = .ok (.imul, 1) := by decide +kernel
theorem dX12_may_89 : decode cX12_may 89 = .ok (.iadd, 1) := by decide +kernel
theorem dX12_may_90 : decode cX12_may 90 = .ok (.bipush 17, 2) := by decide +kernel
theorem dX12_may_92 : decode cX12_may 92 = .ok (.iadd, 1) := by decide +kernel
theorem dX12_may_93 : decode cX12_may 93 = .ok (.iaload, 1) := by decide +kernel
theorem dX12_may_94 : decode cX12_may 94 = .ok (.iload_n 2, 1) := by decide +kernel
theorem dX12_may_95 : decode cX12_may 95 = .ok (.ishr, 1) := by decide +kernel
theorem dX12_may_96 : decode cX12_may 96 = .ok (.iconst 1, 1) := by decide +kernel
theorem dX12_may_97 : decode cX12_may 97 = .ok (.iand, 1) := by decide +kernel
theorem dX12_may_98 : decode cX12_may 98 = .ok (.ifCond .ne 30, 3) := by decide +kernel
theorem dX12_may_101 : decode cX12_may 101 = .ok (.aload_n 0, 1) := by decide +kernel
theorem dX12_may_102 : decode cX12_may 102 = .ok (.getfield 52, 3) := by decide +kernel
theorem dX12_may_105 : decode cX12_may 105 = .ok (.iload_n 2, 1) := by decide +kernel
theorem dX12_may_106 : decode cX12_may 106 = .ok (.iaload, 1) := by decide +kernel
theorem dX12_may_107 : decode cX12_may 107 = .ok (.aload_n 0, 1) := by decide +kernel
theorem dX12_may_108 : decode cX12_may 108 = .ok (.getfield 7, 3) := by decide +kernel
theorem dX12_may_111 : decode cX12_may 111 = .ok (.sipush 1822, 3) := by decide +kernel
theorem dX12_may_114 : decode cX12_may 114 = .ok (.iconst 3, 1) := by decide +kernel
theorem dX12_may_115 : decode cX12_may 115 = .ok (.iload_n 1, 1) := by decide +kernel
theorem dX12_may_116 : decode cX12_may 116 = .ok (.imul, 1) := by decide +kernel
theorem dX12_may_117 : decode cX12_may 117 = .ok (.iadd, 1) := by decide +kernel
theorem dX12_may_118 : decode cX12_may 118 = .ok (.iconst 1, 1) := by decide +kernel
theorem dX12_may_119 : decode cX12_may 119 = .ok (.iadd, 1) := by decide +kernel
theorem dX12_may_120 : decode cX12_may 120 = .ok (.iaload, 1) := by decide +kernel
theorem dX12_may_121 : decode cX12_may 121 = .ok (.if_icmp .lt 7, 3) := by decide +kernel
theorem dX12_may_124 : decode cX12_may 124 = .ok (.iconst 1, 1) := by decide +kernel
theorem dX12_may_125 : decode cX12_may 125 = .ok (.goto 4, 3) := by decide +kernel
theorem dX12_may_128 : decode cX12_may 128 = .ok (.iconst 0, 1) := by decide +kernel
theorem dX12_may_129 : decode cX12_may 129 = .ok (.ireturn, 1) := by decide +kernel
theorem dX12_seeks_0 : decode cX12_seeks 0 = .ok (.iconst 0, 1) := by decide +kernel
theorem dX12_seeks_1 : decode cX12_seeks 1 = .ok (.istore_n 2, 1) := by decide +kernel
theorem dX12_seeks_2 : decode cX12_seeks 2 = .ok (.iload_n 2, 1) := by decide +kernel
theorem dX12_seeks_3 : decode cX12_seeks 3 = .ok (.aload_n 0, 1) := by decide +kernel
theorem dX12_seeks_4 : decode cX12_seeks 4 = .ok (.getfield 7, 3) := by decide +kernel
theorem dX12_seeks_7 : decode cX12_seeks 7 = .ok (.iconst 4, 1) := by decide +kernel
theorem dX12_seeks_8 : decode cX12_seeks 8 = .ok (.iaload, 1) := by decide +kernel
theorem dX12_seeks_9 : decode cX12_seeks 9 = .ok (.if_icmp .ge 28, 3) := by decide +kernel
theorem dX12_seeks_12 : decode cX12_seeks 12 = .ok (.aload_n 0, 1) := by decide +kernel
theorem dX12_seeks_13 : decode cX12_seeks 13 = .ok (.getfield 52, 3) := by decide +kernel
theorem dX12_seeks_16 : decode cX12_seeks 16 = .ok (.iload_n 2, 1) := by decide +kernel
theorem dX12_seeks_17 : decode cX12_seeks 17 = .ok (.aload_n 0, 1) := by decide +kernel
theorem dX12_seeks_18 : decode cX12_seeks 18 = .ok (.getfield 7, 3) := by decide +kernel
theorem dX12_seeks_21 : decode cX12_seeks 21 = .ok (.bipush 20, 2) := by decide +kernel
theorem dX12_seeks_23 : decode cX12_seeks 23 = .ok (.iconst 3, 1) := by decide +kernel
theorem dX12_seeks_24 : decode cX12_seeks 24 = .ok (.iload_n 2, 1) := by decide +kernel
theorem dX12_seeks_25 : decode cX12_seeks 25 = .ok (.imul, 1) := by decide +kernel
theorem dX12_seeks_26 : decode cX12_seeks 26 = .ok (.iadd, 1) := by decide +kernel
theorem dX12_seeks_27 : decode cX12_seeks 27 = .ok (.iconst 2, 1) := by decide +kernel
theorem dX12_seeks_28 : decode cX12_seeks 28 = .ok (.iadd, 1) := by decide +kernel
theorem dX12_seeks_29 : decode cX12_seeks 29 = .ok (.iaload, 1) := by decide +kernel
theorem dX12_seeks_30 : decode cX12_seeks 30 = .ok (.iastore, 1) := by decide +kernel
theorem dX12_seeks_31 : decode cX12_seeks 31 = .ok (.iinc 2 1, 3) := by decide +kernel
theorem dX12_seeks_34 : decode cX12_seeks 34 = .ok (.goto (-32), 3) := by decide +kernel
theorem dX12_seeks_37 : decode cX12_seeks 37 = .ok (.iload_n 1, 1) := by decide +kernel
theorem dX12_seeks_38 : decode cX12_seeks 38 = .ok (.istore_n 2, 1) := by decide +kernel
theorem dX12_seeks_39 : decode cX12_seeks 39 = .ok (.aload_n 0, 1) := by decide +kernel
theorem dX12_seeks_40 : decode cX12_seeks 40 = .ok (.iconst (-1), 1) := by decide +kernel
theorem dX12_seeks_41 : decode cX12_seeks 41 = .ok (.putfield 254, 3) := by decide +kernel
theorem dX12_seeks_44 : decode cX12_seeks 44 = .ok (.iconst 0, 1) := by decide +kernel
theorem dX12_seeks_45 : decode cX12_seeks 45 = .ok (.istore_n 3, 1) := by decide +kernel
theorem dX12_seeks_46 : decode cX12_seeks 46 = .ok (.aload_n 0, 1) := by decide +kernel
theorem dX12_seeks_47 : decode cX12_seeks 47 = .ok (.getfield 46, 3) := by decide +kernel
theorem dX12_seeks_50 : decode cX12_seeks 50 = .ok (.iconst 0, 1) := by decide +kernel
theorem dX12_seeks_51 : decode cX12_seeks 51 = .ok (.iconst 0, 1) := by decide +kernel
theorem dX12_seeks_52 : decode cX12_seeks 52 = .ok (.iastore, 1) := by decide +kernel
theorem dX12_seeks_53 : decode cX12_seeks 53 = .ok (.iload_n 3, 1) := by decide +kernel
theorem dX12_seeks_54 : decode cX12_seeks 54 = .ok (.ifCond .lt 253, 3) := by decide +kernel
theorem dX12_seeks_57 : decode cX12_seeks 57 = .ok (.iload_n 3, 1) := by decide +kernel
theorem dX12_seeks_58 : decode cX12_seeks 58 = .ok (.aload_n 0, 1) := by decide +kernel
theorem dX12_seeks_59 : decode cX12_seeks 59 = .ok (.getfield 7, 3) := by decide +kernel
theorem dX12_seeks_62 : decode cX12_seeks 62 = .ok (.bipush 11, 2) := by decide +kernel
theorem dX12_seeks_64 : decode cX12_seeks 64 = .ok (.iaload, 1) := by decide +kernel
theorem dX12_seeks_65 : decode cX12_seeks 65 = .ok (.if_icmp .ne 91, 3) := by decide +kernel
theorem dX12_seeks_68 : decode cX12_seeks 68 = .ok (.iconst 0, 1) := by decide +kernel
theorem dX12_seeks_69 : decode cX12_seeks 69 = .ok (.istore 4, 2) := by decide +kernel
theorem dX12_seeks_71 : decode cX12_seeks 71 = .ok (.iconst 0, 1) := by decide +kernel
theorem dX12_seeks_72 : decode cX12_seeks 72 = .ok (.istore 5, 2) := by decide +kernel
theorem dX12_seeks_74 : decode cX12_seeks 74 = .ok (.iload 5, 2) := by decide +kernel
theorem dX12_seeks_76 : decode cX12_seeks 76 = .ok (.iload_n 3, 1) := by decide +kernel
theorem dX12_seeks_77 : decode cX12_seeks 77 = .ok (.if_icmp .ge 27, 3) := by decide +kernel
theorem dX12_seeks_80 : decode cX12_seeks 80 = .ok (.iload 4, 2) := by decide +kernel
theorem dX12_seeks_82 : decode cX12_seeks 82 = .ok (.aload_n 0, 1) := by decide +kernel
theorem dX12_seeks_83 : decode cX12_seeks 83 = .ok (.iload 5, 2) := by decide +kernel
theorem dX12_seeks_85 : decode cX12_seeks 85 = .ok (.aload_n 0, 1) := by decide +kernel
theorem dX12_seeks_86 : decode cX12_seeks 86 = .ok (.getfield 43, 3) := by decide +kernel
theorem dX12_seeks_89 : decode cX12_seeks 89 = .ok (.iload 5, 2) := by decide +kernel
theorem dX12_seeks_91 : decode cX12_seeks 91 = .ok (.iaload, 1) := by decide +kernel
theorem dX12_seeks_92 : decode cX12_seeks 92 = .ok (.invokevirtual 257, 3) := by decide +kernel
theorem dX12_seeks_95 : decode cX12_seeks 95 = .ok (.iadd, 1) := by decide +kernel
theorem dX12_seeks_96 : decode cX12_seeks 96 = .ok (.istore 4, 2) := by decide +kernel
theorem dX12_seeks_98 : decode cX12_seeks 98 = .ok (.iinc 5 1, 3) := by decide +kernel
theorem dX12_seeks_101 : decode cX12_seeks 101 = .ok (.goto (-27), 3) := by decide +kernel
theorem dX12_seeks_104 : decode cX12_seeks 104 = .ok (.aload_n 0, 1) := by decide +kernel
theorem dX12_seeks_105 : decode cX12_seeks 105 = .ok (.getfield 254, 3) := by decide +kernel
theorem dX12_seeks_108 : decode cX12_seeks 108 = .ok (.iconst (-1), 1) := by decide +kernel
theorem dX12_seeks_109 : decode cX12_seeks 109 = .ok (.if_icmp .eq 12, 3) := by decide +kernel
theorem dX12_seeks_112 : decode cX12_seeks 112 = .ok (.iload 4, 2) := by decide +kernel
theorem dX12_seeks_114 : decode cX12_seeks 114 = .ok (.aload_n 0, 1) := by decide +kernel
theorem dX12_seeks_115 : decode cX12_seeks 115 = .ok (.getfield 254, 3) := by decide +kernel
theorem dX12_seeks_118 : decode cX12_seeks 118 = .ok (.if_icmp .ge 38, 3) := by decide +kernel
theorem dX12_seeks_121 : decode cX12_seeks 121 = .ok (.aload_n 0, 1) := by decide +kernel
theorem dX12_seeks_122 : decode cX12_seeks 122 = .ok (.iload 4, 2) := by decide +kernel
theorem dX12_seeks_124 : decode cX12_seeks 124 = .ok (.putfield 254, 3) := by decide +kernel
theorem dX12_seeks_127 : decode cX12_seeks 127 = .ok (.iconst 0, 1) := by decide +kernel
theorem dX12_seeks_128 : decode cX12_seeks 128 = .ok (.istore 5, 2) := by decide +kernel
theorem dX12_seeks_130 : decode cX12_seeks 130 = .ok (.iload 5, 2) := by decide +kernel
theorem dX12_seeks_132 : decode cX12_seeks 132 = .ok (.iload_n 3, 1) := by decide +kernel
theorem dX12_seeks_133 : decode cX12_seeks 133 = .ok (.if_icmp .ge 23, 3) := by decide +kernel
theorem dX12_seeks_136 : decode cX12_seeks 136 = .ok (.aload_n 0, 1) := by decide +kernel
theorem dX12_seeks_137 : decode cX12_seeks 137 = .ok (.getfield 49, 3) := by decide +kernel
theorem dX12_seeks_140 : decode cX12_seeks 140 = .ok (.iload 5, 2) := by decide +kernel
theorem dX12_seeks_142 : decode cX12_seeks 142 = .ok (.aload_n 0, 1) := by decide +kernel
theorem dX12_seeks_143 : decode cX12_seeks 143 = .ok (.getfield 43, 3) := by decide +kernel
theorem dX12_seeks_146 : decode cX12_seeks 146 = .ok (.iload 5, 2) := by decide +kernel
theorem dX12_seeks_148 : decode cX12_seeks 148 = .ok (.iaload, 1) := by decide +kernel
theorem dX12_seeks_149 : decode cX12_seeks 149 = .ok (.iastore, 1) := by decide +kernel
theorem dX12_seeks_150 : decode cX12_seeks 150 = .ok (.iinc 5 1, 3) := by decide +kernel
theorem dX12_seeks_153 : decode cX12_seeks 153 = .ok (.goto (-23), 3) := by decide +kernel
theorem dX12_seeks_156 : decode cX12_seeks 156 = .ok (.iload_n 3, 1) := by decide +kernel
theorem dX12_seeks_157 : decode cX12_seeks 157 = .ok (.aload_n 0, 1) := by decide +kernel
theorem dX12_seeks_158 : decode cX12_seeks 158 = .ok (.getfield 7, 3) := by decide +kernel
theorem dX12_seeks_161 : decode cX12_seeks 161 = .ok (.bipush 11, 2) := by decide +kernel
theorem dX12_seeks_163 : decode cX12_seeks 163 = .ok (.iaload, 1) := by decide +kernel
theorem dX12_seeks_164 : decode cX12_seeks 164 = .ok (.if_icmp .eq 18, 3) := by decide +kernel
theorem dX12_seeks_167 : decode cX12_seeks 167 = .ok (.aload_n 0, 1) := by decide +kernel
theorem dX12_seeks_168 : decode cX12_seeks 168 = .ok (.getfield 46, 3) := by decide +kernel
theorem dX12_seeks_171 : decode cX12_seeks 171 = .ok (.iload_n 3, 1) := by decide +kernel
theorem dX12_seeks_172 : decode cX12_seeks 172 = .ok (.iaload, 1) := by decide +kernel
theorem dX12_seeks_173 : decode cX12_seeks 173 = .ok (.aload_n 0, 1) := by decide +kernel
theorem dX12_seeks_174 : decode cX12_seeks 174 = .ok (.getfield 7, 3) := by decide +kernel
theorem dX12_seeks_177 : decode cX12_seeks 177 = .ok (.iconst 4, 1) := by decide +kernel
theorem dX12_seeks_178 : decode cX12_seeks 178 = .ok (.iaload, 1) := by decide +kernel
theorem dX12_seeks_179 : decode cX12_seeks 179 = .ok (.if_icmp .ne 41, 3) := by decide +kernel
theorem dX12_seeks_182 : decode cX12_seeks 182 = .ok (.iinc 3 (-1), 3) := by decide +kernel
theorem dX12_seeks_185 : decode cX12_seeks 185 = .ok (.iload_n 3, 1) := by decide +kernel
theorem dX12_seeks_186 : decode cX12_seeks 186 = .ok (.ifCond .lt (-133), 3) := by decide +kernel
theorem dX12_seeks_189 : decode cX12_seeks 189 = .ok (.aload_n 0, 1) := by decide +kernel
theorem dX12_seeks_190 : decode cX12_seeks 190 = .ok (.getfield 52, 3) := by decide +kernel
theorem dX12_seeks_193 : decode cX12_seeks 193 = .ok (.aload_n 0, 1) := by decide +kernel
theorem dX12_seeks_194 : decode cX12_seeks 194 = .ok (.getfield 43, 3) := by decide +kernel
theorem dX12_seeks_197 : decode cX12_seeks 197 = .ok (.iload_n 3, 1) := by decide +kernel
theorem dX12_seeks_198 : decode cX12_seeks 198 = .ok (.iaload, 1) := by decide +kernel
theorem dX12_seeks_199 : decode cX12_seeks 199 = .ok (.dup2, 1) := by decide +kernel
theorem dX12_seeks_200 : decode cX12_seeks 200 = .ok (.iaload, 1) := by decide +kernel
theorem dX12_seeks_201 : decode cX12_seeks 201 = .ok (.aload_n 0, 1) := by decide +kernel
theorem dX12_seeks_202 : decode cX12_seeks 202 = .ok (.getfield 7, 3) := by decide +kernel
theorem dX12_seeks_205 : decode cX12_seeks 205 = .ok (.sipush 1822, 3) := by decide +kernel
theorem dX12_seeks_208 : decode cX12_seeks 208 = .ok (.iconst 3, 1) := by decide +kernel
theorem dX12_seeks_209 : decode cX12_seeks 209 = .ok (.iload_n 3, 1) := by decide +kernel
theorem dX12_seeks_210 : decode cX12_seeks 210 = .ok (.imul, 1) := by decide +kernel
theorem dX12_seeks_211 : decode cX12_seeks 211 = .ok (.iadd, 1) := by decide +kernel
theorem dX12_seeks_212 : decode cX12_seeks 212 = .ok (.iconst 1, 1) := by decide +kernel
theorem dX12_seeks_213 : decode cX12_seeks 213 = .ok (.iadd, 1) := by decide +kernel
theorem dX12_seeks_214 : decode cX12_seeks 214 = .ok (.iaload, 1) := by decide +kernel
theorem dX12_seeks_215 : decode cX12_seeks 215 = .ok (.iadd, 1) := by decide +kernel
theorem dX12_seeks_216 : decode cX12_seeks 216 = .ok (.iastore, 1) := by decide +kernel
theorem dX12_seeks_217 : decode cX12_seeks 217 = .ok (.goto (-164), 3) := by decide +kernel
theorem dX12_seeks_220 : decode cX12_seeks 220 = .ok (.aload_n 0, 1) := by decide +kernel
theorem dX12_seeks_221 : decode cX12_seeks 221 = .ok (.getfield 46, 3) := by decide +kernel
theorem dX12_seeks_224 : decode cX12_seeks 224 = .ok (.iload_n 3, 1) := by decide +kernel
theorem dX12_seeks_225 : decode cX12_seeks 225 = .ok (.iaload, 1) := by decide +kernel
theorem dX12_seeks_226 : decode cX12_seeks 226 = .ok (.istore 4, 2) := by decide +kernel
theorem dX12_seeks_228 : decode cX12_seeks 228 = .ok (.aload_n 0, 1) := by decide +kernel
theorem dX12_seeks_229 : decode cX12_seeks 229 = .ok (.getfield 46, 3) := by decide +kernel
theorem dX12_seeks_232 : decode cX12_seeks 232 = .ok (.iload_n 3, 1) := by decide +kernel
theorem dX12_seeks_233 : decode cX12_seeks 233 = .ok (.dup2, 1) := by decide +kernel
theorem dX12_seeks_234 : decode cX12_seeks 234 = .ok (.iaload, 1) := by decide +kernel
theorem dX12_seeks_235 : decode cX12_seeks 235 = .ok (.iconst 1, 1) := by decide +kernel
theorem dX12_seeks_236 : decode cX12_seeks 236 = .ok (.iadd, 1) := by decide +kernel
theorem dX12_seeks_237 : decode cX12_seeks 237 = .ok (.iastore, 1) := by decide +kernel
theorem dX12_seeks_238 : decode cX12_seeks 238 = .ok (.aload_n 0, 1) := by decide +kernel
theorem dX12_seeks_239 : decode cX12_seeks 239 = .ok (.iload_n 3, 1) := by decide +kernel
theorem dX12_seeks_240 : decode cX12_seeks 240 = .ok (.iload 4, 2) := by decide +kernel
theorem dX12_seeks_242 : decode cX12_seeks 242 = .ok (.invokevirtual 260, 3) := by decide +kernel
theorem dX12_seeks_245 : decode cX12_seeks 245 = .ok (.ifCond .ne 6, 3) := by decide +kernel
theorem dX12_seeks_248 : decode cX12_seeks 248 = .ok (.goto (-195), 3) := by decide +kernel
theorem dX12_seeks_251 : decode cX12_seeks 251 = .ok (.iload_n 2, 1) := by decide +kernel
theorem dX12_seeks_252 : decode cX12_seeks 252 = .ok (.ifCond .ne 7, 3) := by decide +kernel
theorem dX12_seeks_255 : decode cX12_seeks 255 = .ok (.ldc_w 263, 3) := by decide +kernel
theorem dX12_seeks_258 : decode cX12_seeks 258 = .ok (.ireturn, 1) := by decide +kernel
theorem dX12_seeks_259 : decode cX12_seeks 259 = .ok (.iinc 2 (-1), 3) := by decide +kernel
theorem dX12_seeks_262 : decode cX12_seeks 262 = .ok (.aload_n 0, 1) := by decide +kernel
theorem dX12_seeks_263 : decode cX12_seeks 263 = .ok (.getfield 43, 3) := by decide +kernel
theorem dX12_seeks_266 : decode cX12_seeks 266 = .ok (.iload_n 3, 1) := by decide +kernel
theorem dX12_seeks_267 : decode cX12_seeks 267 = .ok (.iload 4, 2) := by decide +kernel
theorem dX12_seeks_269 : decode cX12_seeks 269 = .ok (.iastore, 1) := by decide +kernel
theorem dX12_seeks_270 : decode cX12_seeks 270 = .ok (.aload_n 0, 1) := by decide +kernel
theorem dX12_seeks_271 : decode cX12_seeks 271 = .ok (.getfield 52, 3) := by decide +kernel
theorem dX12_seeks_274 : decode cX12_seeks 274 = .ok (.iload 4, 2) := by decide +kernel
theorem dX12_seeks_276 : decode cX12_seeks 276 = .ok (.dup2, 1) := by decide +kernel
theorem dX12_seeks_277 : decode cX12_seeks 277 = .ok (.iaload, 1) := by decide +kernel
theorem dX12_seeks_278 : decode cX12_seeks 278 = .ok (.aload_n 0, 1) := by decide +kernel
theorem dX12_seeks_279 : decode cX12_seeks 279 = .ok (.getfield 7, 3) := by decide +kernel
theorem dX12_seeks_282 : decode cX12_seeks 282 = .ok (.sipush 1822, 3) := by decide +kernel
theorem dX12_seeks_285 : decode cX12_seeks 285 = .ok (.iconst 3, 1) := by decide +kernel
theorem dX12_seeks_286 : decode cX12_seeks 286 = .ok (.iload_n 3, 1) := by decide +kernel
theorem dX12_seeks_287 : decode cX12_seeks 287 = .ok (.imul, 1) := by decide +kernel
theorem dX12_seeks_288 : decode cX12_seeks 288 = .ok (.iadd, 1) := by decide +kernel
theorem dX12_seeks_289 : decode cX12_seeks 289 = .ok (.iconst 1, 1) := by decide +kernel
theorem dX12_seeks_290 : decode cX12_seeks 290 = .ok (.iadd, 1) := by decide +kernel
theorem dX12_seeks_291 : decode cX12_seeks 291 = .ok (.iaload, 1) := by decide +kernel
theorem dX12_seeks_292 : decode cX12_seeks 292 = .ok (.isub, 1) := by decide +kernel
theorem dX12_seeks_293 : decode cX12_seeks 293 = .ok (.iastore, 1) := by decide +kernel
theorem dX12_seeks_294 : decode cX12_seeks 294 = .ok (.iinc 3 1, 3) := by decide +kernel
theorem dX12_seeks_297 : decode cX12_seeks 297 = .ok (.aload_n 0, 1) := by decide +kernel
theorem dX12_seeks_298 : decode cX12_seeks 298 = .ok (.getfield 46, 3) := by decide +kernel
theorem dX12_seeks_301 : decode cX12_seeks 301 = .ok (.iload_n 3, 1) := by decide +kernel
theorem dX12_seeks_302 : decode cX12_seeks 302 = .ok (.iconst 0, 1) := by decide +kernel
theorem dX12_seeks_303 : decode cX12_seeks 303 = .ok (.iastore, 1) := by decide +kernel
theorem dX12_seeks_304 : decode cX12_seeks 304 = .ok (.goto (-251), 3) := by decide +kernel
theorem dX12_seeks_307 : decode cX12_seeks 307 = .ok (.aload_n 0, 1) := by decide +kernel
theorem dX12_seeks_308 : decode cX12_seeks 308 = .ok (.getfield 254, 3) := by decide +kernel
theorem dX12_seeks_311 : decode cX12_seeks 311 = .ok (.iconst (-1), 1) := by decide +kernel
theorem dX12_seeks_312 : decode cX12_seeks 312 = .ok (.if_icmp .ne 8, 3) := by decide +kernel
theorem dX12_seeks_315 : decode cX12_seeks 315 = .ok (.ldc 91, 2) := by decide +kernel
theorem dX12_seeks_317 : decode cX12_seeks 317 = .ok (.goto 4, 3) := by decide +kernel
theorem dX12_seeks_320 : decode cX12_seeks 320 = .ok (.iconst 0, 1) := by decide +kernel
theorem dX12_seeks_321 : decode cX12_seeks 321 = .ok (.ireturn, 1) := by decide +kernel
theorem dX12_plan_0 : decode cX12_plan 0 = .ok (.iload_n 1, 1) := by decide +kernel
theorem dX12_plan_1 : decode cX12_plan 1 = .ok (.iconst 1, 1) := by decide +kernel
theorem dX12_plan_2 : decode cX12_plan 2 = .ok (.sipush 30000, 3) := by decide +kernel
theorem dX12_plan_5 : decode cX12_plan 5 = .ok (.invokestatic 68, 3) := by decide +kernel
theorem dX12_plan_8 : decode cX12_plan 8 = .ok (.ifCond .ne 6, 3) := by decide +kernel
theorem dX12_plan_11 : decode cX12_plan 11 = .ok (.ldc 72, 2) := by decide +kernel
theorem dX12_plan_13 : decode cX12_plan 13 = .ok (.ireturn, 1) := by decide +kernel
theorem dX12_plan_14 : decode cX12_plan 14 = .ok (.aload_n 0, 1) := by decide +kernel
theorem dX12_plan_15 : decode cX12_plan 15 = .ok (.iload_n 1, 1) := by decide +kernel
theorem dX12_plan_16 : decode cX12_plan 16 = .ok (.invokevirtual 264, 3) := by decide +kernel
theorem dX12_plan_19 : decode cX12_plan 19 = .ok (.istore_n 2, 1) := by decide +kernel
theorem dX12_plan_20 : decode cX12_plan 20 = .ok (.iload_n 2, 1) := by decide +kernel
theorem dX12_plan_21 : decode cX12_plan 21 = .ok (.ifCond .ne 10, 3) := by decide +kernel
theorem dX12_plan_24 : decode cX12_plan 24 = .ok (.aload_n 0, 1) := by decide +kernel
theorem dX12_plan_25 : decode cX12_plan 25 = .ok (.getfield 254, 3) := by decide +kernel
theorem dX12_plan_28 : decode cX12_plan 28 = .ok (.goto 4, 3) := by decide +kernel
theorem dX12_plan_31 : decode cX12_plan 31 = .ok (.iload_n 2, 1) := by decide +kernel
theorem dX12_plan_32 : decode cX12_plan 32 = .ok (.ireturn, 1) := by decide +kernel
theorem dX12_planned_0 : decode cX12_planned 0 = .ok (.iload_n 1, 1) := by decide +kernel
theorem dX12_planned_1 : decode cX12_planned 1 = .ok (.iconst 1, 1) := by decide +kernel
theorem dX12_planned_2 : decode cX12_planned 2 = .ok (.sipush 30000, 3) := by decide +kernel
theorem dX12_planned_5 : decode cX12_planned 5 = .ok (.invokestatic 68, 3) := by decide +kernel
theorem dX12_planned_8 : decode cX12_planned 8 = .ok (.ifCond .eq 20, 3) := by decide +kernel
theorem dX12_planned_11 : decode cX12_planned 11 = .ok (.iload_n 2, 1) := by decide +kernel
theorem dX12_planned_12 : decode cX12_planned 12 = .ok (.iconst 0, 1) := by decide +kernel
theorem dX12_planned_13 : decode cX12_planned 13 = .ok (.aload_n 0, 1) := by decide +kernel
theorem dX12_planned_14 : decode cX12_planned 14 = .ok (.getfield 7, 3) := by decide +kernel
theorem dX12_planned_17 : decode cX12_planned 17 = .ok (.bipush 11, 2) := by decide +kernel
theorem dX12_planned_19 : decode cX12_planned 19 = .ok (.iaload, 1) := by decide +kernel
theorem dX12_planned_20 : decode cX12_planned 20 = .ok (.iconst 1, 1) := by decide +kernel
theorem dX12_planned_21 : decode cX12_planned 21 = .ok (.isub, 1) := by decide +kernel
theorem dX12_planned_22 : decode cX12_planned 22 = .ok (.invokestatic 68, 3) := by decide +kernel
theorem dX12_planned_25 : decode cX12_planned 25 = .ok (.ifCond .ne 6, 3) := by decide +kernel
theorem dX12_planned_28 : decode cX12_planned 28 = .ok (.ldc 72, 2) := by decide +kernel
theorem dX12_planned_30 : decode cX12_planned 30 = .ok (.ireturn, 1) := by decide +kernel
theorem dX12_planned_31 : decode cX12_planned 31 = .ok (.aload_n 0, 1) := by decide +kernel
theorem dX12_planned_32 : decode cX12_planned 32 = .ok (.iload_n 1, 1) := by decide +kernel
theorem dX12_planned_33 : decode cX12_planned 33 = .ok (.invokevirtual 264, 3) := by decide +kernel
theorem dX12_planned_36 : decode cX12_planned 36 = .ok (.istore_n 3, 1) := by decide +kernel
theorem dX12_planned_37 : decode cX12_planned 37 = .ok (.iload_n 3, 1) := by decide +kernel
theorem dX12_planned_38 : decode cX12_planned 38 = .ok (.ifCond .ne 12, 3) := by decide +kernel
theorem dX12_planned_41 : decode cX12_planned 41 = .ok (.aload_n 0, 1) := by decide +kernel
theorem dX12_planned_42 : decode cX12_planned 42 = .ok (.getfield 49, 3) := by decide +kernel
theorem dX12_planned_45 : decode cX12_planned 45 = .ok (.iload_n 2, 1) := by decide +kernel
theorem dX12_planned_46 : decode cX12_planned 46 = .ok (.iaload, 1) := by decide +kernel
theorem dX12_planned_47 : decode cX12_planned 47 = .ok (.goto 4, 3) := by decide +kernel
theorem dX12_planned_50 : decode cX12_planned 50 = .ok (.iload_n 3, 1) := by decide +kernel
theorem dX12_planned_51 : decode cX12_planned 51 = .ok (.ireturn, 1) := by decide +kernel
theorem dX12_tell_0 : decode cX12_tell 0 = .ok (.aload_n 0, 1) := by decide +kernel
theorem dX12_tell_1 : decode cX12_tell 1 = .ok (.getfield 267, 3) := by decide +kernel
theorem dX12_tell_4 : decode cX12_tell 4 = .ok (.bipush 20, 2) := by decide +kernel
theorem dX12_tell_6 : decode cX12_tell 6 = .ok (.if_icmp .ne 6, 3) := by decide +kernel
theorem dX12_tell_9 : decode cX12_tell 9 = .ok (.ldc 73, 2) := by decide +kernel
theorem dX12_tell_11 : decode cX12_tell 11 = .ok (.ireturn, 1) := by decide +kernel
theorem dX12_tell_12 : decode cX12_tell 12 = .ok (.aload_n 0, 1) := by decide +kernel
theorem dX12_tell_13 : decode cX12_tell 13 = .ok (.getfield 55, 3) := by decide +kernel
theorem dX12_tell_16 : decode cX12_tell 16 = .ok (.aload_n 0, 1) := by decide +kernel
theorem dX12_tell_17 : decode cX12_tell 17 = .ok (.getfield 267, 3) := by decide +kernel
theorem dX12_tell_20 : decode cX12_tell 20 = .ok (.iload_n 1, 1) := by decide +kernel
theorem dX12_tell_21 : decode cX12_tell 21 = .ok (.iastore, 1) := by decide +kernel
theorem dX12_tell_22 : decode cX12_tell 22 = .ok (.aload_n 0, 1) := by decide +kernel
theorem dX12_tell_23 : decode cX12_tell 23 = .ok (.dup, 1) := by decide +kernel
theorem dX12_tell_24 : decode cX12_tell 24 = .ok (.getfield 267, 3) := by decide +kernel
theorem dX12_tell_27 : decode cX12_tell 27 = .ok (.iconst 1, 1) := by decide +kernel
theorem dX12_tell_28 : decode cX12_tell 28 = .ok (.iadd, 1) := by decide +kernel
theorem dX12_tell_29 : decode cX12_tell 29 = .ok (.putfield 267, 3) := by decide +kernel
theorem dX12_tell_32 : decode cX12_tell 32 = .ok (.aload_n 0, 1) := by decide +kernel
theorem dX12_tell_33 : decode cX12_tell 33 = .ok (.getfield 267, 3) := by decide +kernel
theorem dX12_tell_36 : decode cX12_tell 36 = .ok (.ireturn, 1) := by decide +kernel
theorem dX12_check_0 : decode cX12_check 0 = .ok (.aload_n 0, 1) := by decide +kernel
theorem dX12_check_1 : decode cX12_check 1 = .ok (.getfield 267, 3) := by decide +kernel
theorem dX12_check_4 : decode cX12_check 4 = .ok (.istore_n 1, 1) := by decide +kernel
theorem dX12_check_5 : decode cX12_check 5 = .ok (.aload_n 0, 1) := by decide +kernel
theorem dX12_check_6 : decode cX12_check 6 = .ok (.iconst 0, 1) := by decide +kernel
theorem dX12_check_7 : decode cX12_check 7 = .ok (.putfield 267, 3) := by decide +kernel
theorem dX12_check_10 : decode cX12_check 10 = .ok (.aload_n 0, 1) := by decide +kernel
theorem dX12_check_11 : decode cX12_check 11 = .ok (.sipush 30000, 3) := by decide +kernel
theorem dX12_check_14 : decode cX12_check 14 = .ok (.invokevirtual 264, 3) := by decide +kernel
theorem dX12_check_17 : decode cX12_check 17 = .ok (.istore_n 2, 1) := by decide +kernel
theorem dX12_check_18 : decode cX12_check 18 = .ok (.iload_n 2, 1) := by decide +kernel
theorem dX12_check_19 : decode cX12_check 19 = .ok (.ifCond .eq 5, 3) := by decide +kernel
theorem dX12_check_22 : decode cX12_check 22 = .ok (.iload_n 2, 1) := by decide +kernel
theorem dX12_check_23 : decode cX12_check 23 = .ok (.ireturn, 1) := by decide +kernel
theorem dX12_check_24 : decode cX12_check 24 = .ok (.iconst 0, 1) := by decide +kernel
theorem dX12_check_25 : decode cX12_check 25 = .ok (.istore_n 3, 1) := by decide +kernel
theorem dX12_check_26 : decode cX12_check 26 = .ok (.iconst 0, 1) := by decide +kernel
theorem dX12_check_27 : decode cX12_check 27 = .ok (.istore 4, 2) := by decide +kernel
theorem dX12_check_29 : decode cX12_check 29 = .ok (.iload 4, 2) := by decide +kernel
theorem dX12_check_31 : decode cX12_check 31 = .ok (.iload_n 1, 1) := by decide +kernel
theorem dX12_check_32 : decode cX12_check 32 = .ok (.if_icmp .ge 94, 3) := by decide +kernel
theorem dX12_check_35 : decode cX12_check 35 = .ok (.iload 4, 2) := by decide +kernel
theorem dX12_check_37 : decode cX12_check 37 = .ok (.iconst 2, 1) := by decide +kernel
theorem dX12_check_38 : decode cX12_check 38 = .ok (.aload_n 0, 1) := by decide +kernel
theorem dX12_check_39 : decode cX12_check 39 = .ok (.getfield 7, 3) := by decide +kernel
theorem dX12_check_42 : decode cX12_check 42 = .ok (.bipush 11, 2) := by decide +kernel
theorem dX12_check_44 : decode cX12_check 44 = .ok (.iaload, 1) := by decide +kernel
theorem dX12_check_45 : decode cX12_check 45 = .ok (.imul, 1) := by decide +kernel
theorem dX12_check_46 : decode cX12_check 46 = .ok (.if_icmp .lt 8, 3) := by decide +kernel
theorem dX12_check_49 : decode cX12_check 49 = .ok (.iconst 1, 1) := by decide +kernel
theorem dX12_check_50 : decode cX12_check 50 = .ok (.iload 4, 2) := by decide +kernel
theorem dX12_check_52 : decode cX12_check 52 = .ok (.iadd, 1) := by decide +kernel
theorem dX12_check_53 : decode cX12_check 53 = .ok (.ireturn, 1) := by decide +kernel
theorem dX12_check_54 : decode cX12_check 54 = .ok (.iload_n 3, 1) := by decide +kernel
theorem dX12_check_55 : decode cX12_check 55 = .ok (.iload 4, 2) := by decide +kernel
theorem dX12_check_57 : decode cX12_check 57 = .ok (.iconst 2, 1) := by decide +kernel
theorem dX12_check_58 : decode cX12_check 58 = .ok (.irem, 1) := by decide +kernel
theorem dX12_check_59 : decode cX12_check 59 = .ok (.ifCond .ne 23, 3) := by decide +kernel
theorem dX12_check_62 : decode cX12_check 62 = .ok (.aload_n 0, 1) := by decide +kernel
theorem dX12_check_63 : decode cX12_check 63 = .ok (.iload 4, 2) := by decide +kernel
theorem dX12_check_65 : decode cX12_check 65 = .ok (.iconst 2, 1) := by decide +kernel
theorem dX12_check_66 : decode cX12_check 66 = .ok (.idiv, 1) := by decide +kernel
theorem dX12_check_67 : decode cX12_check 67 = .ok (.aload_n 0, 1) := by decide +kernel
theorem dX12_check_68 : decode cX12_check 68 = .ok (.getfield 49, 3) := by decide +kernel
theorem dX12_check_71 : decode cX12_check 71 = .ok (.iload 4, 2) := by decide +kernel
theorem dX12_check_73 : decode cX12_check 73 = .ok (.iconst 2, 1) := by decide +kernel
theorem dX12_check_74 : decode cX12_check 74 = .ok (.idiv, 1) := by decide +kernel
theorem dX12_check_75 : decode cX12_check 75 = .ok (.iaload, 1) := by decide +kernel
theorem dX12_check_76 : decode cX12_check 76 = .ok (.invokevirtual 257, 3) := by decide +kernel
theorem dX12_check_79 : decode cX12_check 79 = .ok (.goto 4, 3) := by decide +kernel
theorem dX12_check_82 : decode cX12_check 82 = .ok (.iconst 0, 1) := by decide +kernel
theorem dX12_check_83 : decode cX12_check 83 = .ok (.iadd, 1) := by decide +kernel
theorem dX12_check_84 : decode cX12_check 84 = .ok (.istore_n 3, 1) := by decide +kernel
theorem dX12_check_85 : decode cX12_check 85 = .ok (.aload_n 0, 1) := by decide +kernel
theorem dX12_check_86 : decode cX12_check 86 = .ok (.getfield 55, 3) := by decide +kernel
theorem dX12_check_89 : decode cX12_check 89 = .ok (.iload 4, 2) := by decide +kernel
theorem dX12_check_91 : decode cX12_check 91 = .ok (.iaload, 1) := by decide +kernel
theorem dX12_check_92 : decode cX12_check 92 = .ok (.iload 4, 2) := by decide +kernel
theorem dX12_check_94 : decode cX12_check 94 = .ok (.iconst 2, 1) := by decide +kernel
theorem dX12_check_95 : decode cX12_check 95 = .ok (.irem, 1) := by decide +kernel
theorem dX12_check_96 : decode cX12_check 96 = .ok (.ifCond .ne 15, 3) := by decide +kernel
theorem dX12_check_99 : decode cX12_check 99 = .ok (.aload_n 0, 1) := by decide +kernel
theorem dX12_check_100 : decode cX12_check 100 = .ok (.getfield 49, 3) := by decide +kernel
theorem dX12_check_103 : decode cX12_check 103 = .ok (.iload 4, 2) := by decide +kernel
theorem dX12_check_105 : decode cX12_check 105 = .ok (.iconst 2, 1) := by decide +kernel
theorem dX12_check_106 : decode cX12_check 106 = .ok (.idiv, 1) := by decide +kernel
theorem dX12_check_107 : decode cX12_check 107 = .ok (.iaload, 1) := by decide +kernel
theorem dX12_check_108 : decode cX12_check 108 = .ok (.goto 4, 3) := by decide +kernel
theorem dX12_check_111 : decode cX12_check 111 = .ok (.iload_n 3, 1) := by decide +kernel
theorem dX12_check_112 : decode cX12_check 112 = .ok (.if_icmp .eq 8, 3) := by decide +kernel
theorem dX12_check_115 : decode cX12_check 115 = .ok (.iconst 1, 1) := by decide +kernel
theorem dX12_check_116 : decode cX12_check 116 = .ok (.iload 4, 2) := by decide +kernel
theorem dX12_check_118 : decode cX12_check 118 = .ok (.iadd, 1) := by decide +kernel
theorem dX12_check_119 : decode cX12_check 119 = .ok (.ireturn, 1) := by decide +kernel
theorem dX12_check_120 : decode cX12_check 120 = .ok (.iinc 4 1, 3) := by decide +kernel
theorem dX12_check_123 : decode cX12_check 123 = .ok (.goto (-94), 3) := by decide +kernel
theorem dX12_check_126 : decode cX12_check 126 = .ok (.iload_n 1, 1) := by decide +kernel
theorem dX12_check_127 : decode cX12_check 127 = .ok (.iconst 2, 1) := by decide +kernel
theorem dX12_check_128 : decode cX12_check 128 = .ok (.aload_n 0, 1) := by decide +kernel
theorem dX12_check_129 : decode cX12_check 129 = .ok (.getfield 7, 3) := by decide +kernel
theorem dX12_check_132 : decode cX12_check 132 = .ok (.bipush 11, 2) := by decide +kernel
theorem dX12_check_134 : decode cX12_check 134 = .ok (.iaload, 1) := by decide +kernel
theorem dX12_check_135 : decode cX12_check 135 = .ok (.imul, 1) := by decide +kernel
theorem dX12_check_136 : decode cX12_check 136 = .ok (.if_icmp .ge 9, 3) := by decide +kernel
theorem dX12_check_139 : decode cX12_check 139 = .ok (.iconst 1, 1) := by decide +kernel
theorem dX12_check_140 : decode cX12_check 140 = .ok (.iload_n 1, 1) := by decide +kernel
theorem dX12_check_141 : decode cX12_check 141 = .ok (.iadd, 1) := by decide +kernel
theorem dX12_check_142 : decode cX12_check 142 = .ok (.goto 4, 3) := by decide +kernel
theorem dX12_check_145 : decode cX12_check 145 = .ok (.iconst 0, 1) := by decide +kernel
theorem dX12_check_146 : decode cX12_check 146 = .ok (.ireturn, 1) := by decide +kernel
theorem dX12_keep_0 : decode cX12_keep 0 = .ok (.iconst 0, 1) := by decide +kernel
theorem dX12_keep_1 : decode cX12_keep 1 = .ok (.istore_n 1, 1) := by decide +kernel
theorem dX12_keep_2 : decode cX12_keep 2 = .ok (.iload_n 1, 1) := by decide +kernel
theorem dX12_keep_3 : decode cX12_keep 3 = .ok (.sipush 9100, 3) := by decide +kernel
theorem dX12_keep_6 : decode cX12_keep 6 = .ok (.if_icmp .ge 21, 3) := by decide +kernel
theorem dX12_keep_9 : decode cX12_keep 9 = .ok (.aload_n 0, 1) := by decide +kernel
theorem dX12_keep_10 : decode cX12_keep 10 = .ok (.getfield 13, 3) := by decide +kernel
theorem dX12_keep_13 : decode cX12_keep 13 = .ok (.iload_n 1, 1) := by decide +kernel
theorem dX12_keep_14 : decode cX12_keep 14 = .ok (.aload_n 0, 1) := by decide +kernel
theorem dX12_keep_15 : decode cX12_keep 15 = .ok (.getfield 7, 3) := by decide +kernel
theorem dX12_keep_18 : decode cX12_keep 18 = .ok (.iload_n 1, 1) := by decide +kernel
theorem dX12_keep_19 : decode cX12_keep 19 = .ok (.iaload, 1) := by decide +kernel
theorem dX12_keep_20 : decode cX12_keep 20 = .ok (.iastore, 1) := by decide +kernel
theorem dX12_keep_21 : decode cX12_keep 21 = .ok (.iinc 1 1, 3) := by decide +kernel
theorem dX12_keep_24 : decode cX12_keep 24 = .ok (.goto (-22), 3) := by decide +kernel
theorem dX12_keep_27 : decode cX12_keep 27 = .ok (.aload_n 0, 1) := by decide +kernel
theorem dX12_keep_28 : decode cX12_keep 28 = .ok (.iconst 1, 1) := by decide +kernel
theorem dX12_keep_29 : decode cX12_keep 29 = .ok (.putfield 270, 3) := by decide +kernel
theorem dX12_keep_32 : decode cX12_keep 32 = .ok (.aload_n 0, 1) := by decide +kernel
theorem dX12_keep_33 : decode cX12_keep 33 = .ok (.getfield 7, 3) := by decide +kernel
theorem dX12_keep_36 : decode cX12_keep 36 = .ok (.iconst 0, 1) := by decide +kernel
theorem dX12_keep_37 : decode cX12_keep 37 = .ok (.iaload, 1) := by decide +kernel
theorem dX12_keep_38 : decode cX12_keep 38 = .ok (.ireturn, 1) := by decide +kernel
theorem dX12_back_0 : decode cX12_back 0 = .ok (.aload_n 0, 1) := by decide +kernel
theorem dX12_back_1 : decode cX12_back 1 = .ok (.getfield 270, 3) := by decide +kernel
theorem dX12_back_4 : decode cX12_back 4 = .ok (.ifCond .ne 6, 3) := by decide +kernel
theorem dX12_back_7 : decode cX12_back 7 = .ok (.ldc 91, 2) := by decide +kernel
theorem dX12_back_9 : decode cX12_back 9 = .ok (.ireturn, 1) := by decide +kernel
theorem dX12_back_10 : decode cX12_back 10 = .ok (.iconst 0, 1) := by decide +kernel
theorem dX12_back_11 : decode cX12_back 11 = .ok (.istore_n 1, 1) := by decide +kernel
theorem dX12_back_12 : decode cX12_back 12 = .ok (.iload_n 1, 1) := by decide +kernel
theorem dX12_back_13 : decode cX12_back 13 = .ok (.sipush 9100, 3) := by decide +kernel
theorem dX12_back_16 : decode cX12_back 16 = .ok (.if_icmp .ge 21, 3) := by decide +kernel
theorem dX12_back_19 : decode cX12_back 19 = .ok (.aload_n 0, 1) := by decide +kernel
theorem dX12_back_20 : decode cX12_back 20 = .ok (.getfield 7, 3) := by decide +kernel
theorem dX12_back_23 : decode cX12_back 23 = .ok (.iload_n 1, 1) := by decide +kernel
theorem dX12_back_24 : decode cX12_back 24 = .ok (.aload_n 0, 1) := by decide +kernel
theorem dX12_back_25 : decode cX12_back 25 = .ok (.getfield 13, 3) := by decide +kernel
theorem dX12_back_28 : decode cX12_back 28 = .ok (.iload_n 1, 1) := by decide +kernel
theorem dX12_back_29 : decode cX12_back 29 = .ok (.iaload, 1) := by decide +kernel
theorem dX12_back_30 : decode cX12_back 30 = .ok (.iastore, 1) := by decide +kernel
theorem dX12_back_31 : decode cX12_back 31 = .ok (.iinc 1 1, 3) := by decide +kernel
theorem dX12_back_34 : decode cX12_back 34 = .ok (.goto (-22), 3) := by decide +kernel
theorem dX12_back_37 : decode cX12_back 37 = .ok (.aload_n 0, 1) := by decide +kernel
theorem dX12_back_38 : decode cX12_back 38 = .ok (.getfield 7, 3) := by decide +kernel
theorem dX12_back_41 : decode cX12_back 41 = .ok (.iconst 0, 1) := by decide +kernel
theorem dX12_back_42 : decode cX12_back 42 = .ok (.iaload, 1) := by decide +kernel
theorem dX12_back_43 : decode cX12_back 43 = .ok (.ireturn, 1) := by decide +kernel
theorem dX12_sheet_0 : decode cX12_sheet 0 = .ok (.iload_n 1, 1) := by decide +kernel
theorem dX12_sheet_1 : decode cX12_sheet 1 = .ok (.iconst 0, 1) := by decide +kernel
theorem dX12_sheet_2 : decode cX12_sheet 2 = .ok (.iconst 1, 1) := by decide +kernel
theorem dX12_sheet_3 : decode cX12_sheet 3 = .ok (.invokestatic 68, 3) := by decide +kernel
theorem dX12_sheet_6 : decode cX12_sheet 6 = .ok (.ifCond .eq 9, 3) := by decide +kernel
theorem dX12_sheet_9 : decode cX12_sheet 9 = .ok (.iload_n 2, 1) := by decide +kernel
theorem dX12_sheet_10 : decode cX12_sheet 10 = .ok (.bipush 20, 2) := by decide +kernel
theorem dX12_sheet_12 : decode cX12_sheet 12 = .ok (.if_icmp .le 6, 3) := by decide +kernel
theorem dX12_sheet_15 : decode cX12_sheet 15 = .ok (.ldc 72, 2) := by decide +kernel
theorem dX12_sheet_17 : decode cX12_sheet 17 = .ok (.ireturn, 1) := by decide +kernel
theorem dX12_sheet_18 : decode cX12_sheet 18 = .ok (.iload_n 2, 1) := by decide +kernel
theorem dX12_sheet_19 : decode cX12_sheet 19 = .ok (.ifCond .ge 7, 3) := by decide +kernel
theorem dX12_sheet_22 : decode cX12_sheet 22 = .ok (.ldc_w 273, 3) := by decide +kernel
theorem dX12_sheet_25 : decode cX12_sheet 25 = .ok (.ireturn, 1) := by decide +kernel
theorem dX12_sheet_26 : decode cX12_sheet 26 = .ok (.aload_n 0, 1) := by decide +kernel
theorem dX12_sheet_27 : decode cX12_sheet 27 = .ok (.getfield 61, 3) := by decide +kernel
theorem dX12_sheet_30 : decode cX12_sheet 30 = .ok (.iload_n 1, 1) := by decide +kernel
theorem dX12_sheet_31 : decode cX12_sheet 31 = .ok (.iload_n 2, 1) := by decide +kernel
theorem dX12_sheet_32 : decode cX12_sheet 32 = .ok (.iastore, 1) := by decide +kernel
theorem dX12_sheet_33 : decode cX12_sheet 33 = .ok (.iconst 0, 1) := by decide +kernel
theorem dX12_sheet_34 : decode cX12_sheet 34 = .ok (.istore_n 3, 1) := by decide +kernel
theorem dX12_sheet_35 : decode cX12_sheet 35 = .ok (.iload_n 3, 1) := by decide +kernel
theorem dX12_sheet_36 : decode cX12_sheet 36 = .ok (.iload_n 2, 1) := by decide +kernel
theorem dX12_sheet_37 : decode cX12_sheet 37 = .ok (.if_icmp .ge 21, 3) := by decide +kernel
theorem dX12_sheet_40 : decode cX12_sheet 40 = .ok (.aload_n 0, 1) := by decide +kernel
theorem dX12_sheet_41 : decode cX12_sheet 41 = .ok (.getfield 58, 3) := by decide +kernel
theorem dX12_sheet_44 : decode cX12_sheet 44 = .ok (.bipush 20, 2) := by decide +kernel
theorem dX12_sheet_46 : decode cX12_sheet 46 = .ok (.iload_n 1, 1) := by decide +kernel
theorem dX12_sheet_47 : decode cX12_sheet 47 = .ok (.imul, 1) := by decide +kernel
theorem dX12_sheet_48 : decode cX12_sheet 48 = .ok (.iload_n 3, 1) := by decide +kernel
theorem dX12_sheet_49 : decode cX12_sheet 49 = .ok (.iadd, 1) := by decide +kernel
theorem dX12_sheet_50 : decode cX12_sheet 50 = .ok (.iconst 0, 1) := by decide +kernel
theorem dX12_sheet_51 : decode cX12_sheet 51 = .ok (.iastore, 1) := by decide +kernel
theorem dX12_sheet_52 : decode cX12_sheet 52 = .ok (.iinc 3 1, 3) := by decide +kernel
theorem dX12_sheet_55 : decode cX12_sheet 55 = .ok (.goto (-20), 3) := by decide +kernel
theorem dX12_sheet_58 : decode cX12_sheet 58 = .ok (.iload_n 2, 1) := by decide +kernel
theorem dX12_sheet_59 : decode cX12_sheet 59 = .ok (.ireturn, 1) := by decide +kernel
theorem dX12_mark_0 : decode cX12_mark 0 = .ok (.iload_n 1, 1) := by decide +kernel
theorem dX12_mark_1 : decode cX12_mark 1 = .ok (.iconst 0, 1) := by decide +kernel
theorem dX12_mark_2 : decode cX12_mark 2 = .ok (.iconst 1, 1) := by decide +kernel
theorem dX12_mark_3 : decode cX12_mark 3 = .ok (.invokestatic 68, 3) := by decide +kernel
theorem dX12_mark_6 : decode cX12_mark 6 = .ok (.ifCond .ne 6, 3) := by decide +kernel
theorem dX12_mark_9 : decode cX12_mark 9 = .ok (.ldc 72, 2) := by decide +kernel
theorem dX12_mark_11 : decode cX12_mark 11 = .ok (.ireturn, 1) := by decide +kernel
theorem dX12_mark_12 : decode cX12_mark 12 = .ok (.aload_n 0, 1) := by decide +kernel
theorem dX12_mark_13 : decode cX12_mark 13 = .ok (.getfield 61, 3) := by decide +kernel
theorem dX12_mark_16 : decode cX12_mark 16 = .ok (.iload_n 1, 1) := by decide +kernel
theorem dX12_mark_17 : decode cX12_mark 17 = .ok (.iaload, 1) := by decide +kernel
theorem dX12_mark_18 : decode cX12_mark 18 = .ok (.iconst (-1), 1) := by decide +kernel
theorem dX12_mark_19 : decode cX12_mark 19 = .ok (.if_icmp .ne 6, 3) := by decide +kernel
theorem dX12_mark_22 : decode cX12_mark 22 = .ok (.ldc 253, 2) := by decide +kernel
theorem dX12_mark_24 : decode cX12_mark 24 = .ok (.ireturn, 1) := by decide +kernel
theorem dX12_mark_25 : decode cX12_mark 25 = .ok (.iload_n 2, 1) := by decide +kernel
theorem dX12_mark_26 : decode cX12_mark 26 = .ok (.iconst 0, 1) := by decide +kernel
theorem dX12_mark_27 : decode cX12_mark 27 = .ok (.aload_n 0, 1) := by decide +kernel
theorem dX12_mark_28 : decode cX12_mark 28 = .ok (.getfield 61, 3) := by decide +kernel
theorem dX12_mark_31 : decode cX12_mark 31 = .ok (.iload_n 1, 1) := by decide +kernel
theorem dX12_mark_32 : decode cX12_mark 32 = .ok (.iaload, 1) := by decide +kernel
theorem dX12_mark_33 : decode cX12_mark 33 = .ok (.iconst 1, 1) := by decide +kernel
theorem dX12_mark_34 : decode cX12_mark 34 = .ok (.isub, 1) := by decide +kernel
theorem dX12_mark_35 : decode cX12_mark 35 = .ok (.invokestatic 68, 3) := by decide +kernel
theorem dX12_mark_38 : decode cX12_mark 38 = .ok (.ifCond .ne 7, 3) := by decide +kernel
theorem dX12_mark_41 : decode cX12_mark 41 = .ok (.ldc_w 274, 3) := by decide +kernel
theorem dX12_mark_44 : decode cX12_mark 44 = .ok (.ireturn, 1) := by decide +kernel
theorem dX12_mark_45 : decode cX12_mark 45 = .ok (.aload_n 0, 1) := by decide +kernel
theorem dX12_mark_46 : decode cX12_mark 46 = .ok (.getfield 58, 3) := by decide +kernel
theorem dX12_mark_49 : decode cX12_mark 49 = .ok (.bipush 20, 2) := by decide +kernel
theorem dX12_mark_51 : decode cX12_mark 51 = .ok (.iload_n 1, 1) := by decide +kernel
theorem dX12_mark_52 : decode cX12_mark 52 = .ok (.imul, 1) := by decide +kernel
theorem dX12_mark_53 : decode cX12_mark 53 = .ok (.iload_n 2, 1) := by decide +kernel
theorem dX12_mark_54 : decode cX12_mark 54 = .ok (.iadd, 1) := by decide +kernel
theorem dX12_mark_55 : decode cX12_mark 55 = .ok (.iaload, 1) := by decide +kernel
theorem dX12_mark_56 : decode cX12_mark 56 = .ok (.istore 4, 2) := by decide +kernel
theorem dX12_mark_58 : decode cX12_mark 58 = .ok (.aload_n 0, 1) := by decide +kernel
theorem dX12_mark_59 : decode cX12_mark 59 = .ok (.getfield 58, 3) := by decide +kernel
theorem dX12_mark_62 : decode cX12_mark 62 = .ok (.bipush 20, 2) := by decide +kernel
theorem dX12_mark_64 : decode cX12_mark 64 = .ok (.iload_n 1, 1) := by decide +kernel
theorem dX12_mark_65 : decode cX12_mark 65 = .ok (.imul, 1) := by decide +kernel
theorem dX12_mark_66 : decode cX12_mark 66 = .ok (.iload_n 2, 1) := by decide +kernel
theorem dX12_mark_67 : decode cX12_mark 67 = .ok (.iadd, 1) := by decide +kernel
theorem dX12_mark_68 : decode cX12_mark 68 = .ok (.iload_n 3, 1) := by decide +kernel
theorem dX12_mark_69 : decode cX12_mark 69 = .ok (.i2s, 1) := by decide +kernel
theorem dX12_mark_70 : decode cX12_mark 70 = .ok (.iastore, 1) := by decide +kernel
theorem dX12_mark_71 : decode cX12_mark 71 = .ok (.iload 4, 2) := by decide +kernel
theorem dX12_mark_73 : decode cX12_mark 73 = .ok (.ireturn, 1) := by decide +kernel
theorem dX12_copy_0 : decode cX12_copy 0 = .ok (.iload_n 1, 1) := by decide +kernel
theorem dX12_copy_1 : decode cX12_copy 1 = .ok (.iconst 0, 1) := by decide +kernel
theorem dX12_copy_2 : decode cX12_copy 2 = .ok (.iconst 1, 1) := by decide +kernel
theorem dX12_copy_3 : decode cX12_copy 3 = .ok (.invokestatic 68, 3) := by decide +kernel
theorem dX12_copy_6 : decode cX12_copy 6 = .ok (.ifCond .eq 12, 3) := by decide +kernel
theorem dX12_copy_9 : decode cX12_copy 9 = .ok (.iload_n 3, 1) := by decide +kernel
theorem dX12_copy_10 : decode cX12_copy 10 = .ok (.iconst 0, 1) := by decide +kernel
theorem dX12_copy_11 : decode cX12_copy 11 = .ok (.iconst 1, 1) := by decide +kernel
theorem dX12_copy_12 : decode cX12_copy 12 = .ok (.invokestatic 68, 3) := by decide +kernel
theorem dX12_copy_15 : decode cX12_copy 15 = .ok (.ifCond .ne 6, 3) := by decide +kernel
theorem dX12_copy_18 : decode cX12_copy 18 = .ok (.ldc 72, 2) := by decide +kernel
theorem dX12_copy_20 : decode cX12_copy 20 = .ok (.ireturn, 1) := by decide +kernel
theorem dX12_copy_21 : decode cX12_copy 21 = .ok (.aload_n 0, 1) := by decide +kernel
theorem dX12_copy_22 : decode cX12_copy 22 = .ok (.getfield 61, 3) := by decide +kernel
theorem dX12_copy_25 : decode cX12_copy 25 = .ok (.iload_n 1, 1) := by decide +kernel
theorem dX12_copy_26 : decode cX12_copy 26 = .ok (.iaload, 1) := by decide +kernel
theorem dX12_copy_27 : decode cX12_copy 27 = .ok (.iconst (-1), 1) := by decide +kernel
theorem dX12_copy_28 : decode cX12_copy 28 = .ok (.if_icmp .eq 13, 3) := by decide +kernel
theorem dX12_copy_31 : decode cX12_copy 31 = .ok (.aload_n 0, 1) := by decide +kernel
theorem dX12_copy_32 : decode cX12_copy 32 = .ok (.getfield 61, 3) := by decide +kernel
theorem dX12_copy_35 : decode cX12_copy 35 = .ok (.iload_n 3, 1) := by decide +kernel
theorem dX12_copy_36 : decode cX12_copy 36 = .ok (.iaload, 1) := by decide +kernel
theorem dX12_copy_37 : decode cX12_copy 37 = .ok (.iconst (-1), 1) := by decide +kernel
theorem dX12_copy_38 : decode cX12_copy 38 = .ok (.if_icmp .ne 6, 3) := by decide +kernel
theorem dX12_copy_41 : decode cX12_copy 41 = .ok (.ldc 253, 2) := by decide +kernel
theorem dX12_copy_43 : decode cX12_copy 43 = .ok (.ireturn, 1) := by decide +kernel
theorem dX12_copy_44 : decode cX12_copy 44 = .ok (.iload_n 2, 1) := by decide +kernel
theorem dX12_copy_45 : decode cX12_copy 45 = .ok (.ifCond .lt 40, 3) := by decide +kernel
theorem dX12_copy_48 : decode cX12_copy 48 = .ok (.iload 4, 2) := by decide +kernel
theorem dX12_copy_50 : decode cX12_copy 50 = .ok (.ifCond .lt 35, 3) := by decide +kernel
theorem dX12_copy_53 : decode cX12_copy 53 = .ok (.iload 5, 2) := by decide +kernel
theorem dX12_copy_55 : decode cX12_copy 55 = .ok (.ifCond .lt 30, 3) := by decide +kernel
theorem dX12_copy_58 : decode cX12_copy 58 = .ok (.iload_n 2, 1) := by decide +kernel
theorem dX12_copy_59 : decode cX12_copy 59 = .ok (.aload_n 0, 1) := by decide +kernel
theorem dX12_copy_60 : decode cX12_copy 60 = .ok (.getfield 61, 3) := by decide +kernel
theorem dX12_copy_63 : decode cX12_copy 63 = .ok (.iload_n 1, 1) := by decide +kernel
theorem dX12_copy_64 : decode cX12_copy 64 = .ok (.iaload, 1) := by decide +kernel
theorem dX12_copy_65 : decode cX12_copy 65 = .ok (.iload 5, 2) := by decide +kernel
theorem dX12_copy_67 : decode cX12_copy 67 = .ok (.isub, 1) := by decide +kernel
theorem dX12_copy_68 : decode cX12_copy 68 = .ok (.if_icmp .gt 17, 3) := by decide +kernel
theorem dX12_copy_71 : decode cX12_copy 71 = .ok (.iload 4, 2) := by decide +kernel
theorem dX12_copy_73 : decode cX12_copy 73 = .ok (.aload_n 0, 1) := by decide +kernel
theorem dX12_copy_74 : decode cX12_copy 74 = .ok (.getfield 61, 3) := by decide +kernel
theorem dX12_copy_77 : decode cX12_copy 77 = .ok (.iload_n 3, 1) := by decide +kernel
theorem dX12_copy_78 : decode cX12_copy 78 = .ok (.iaload, 1) := by decide +kernel
theorem dX12_copy_79 : decode cX12_copy 79 = .ok (.iload 5, 2) := by decide +kernel
theorem dX12_copy_81 : decode cX12_copy 81 = .ok (.isub, 1) := by decide +kernel
theorem dX12_copy_82 : decode cX12_copy 82 = .ok (.if_icmp .le 7, 3) := by decide +kernel
theorem dX12_copy_85 : decode cX12_copy 85 = .ok (.ldc_w 274, 3) := by decide +kernel
theorem dX12_copy_88 : decode cX12_copy 88 = .ok (.ireturn, 1) := by decide +kernel
theorem dX12_copy_89 : decode cX12_copy 89 = .ok (.iconst 0, 1) := by decide +kernel
theorem dX12_copy_90 : decode cX12_copy 90 = .ok (.istore 6, 2) := by decide +kernel
theorem dX12_copy_92 : decode cX12_copy 92 = .ok (.iload 6, 2) := by decide +kernel
theorem dX12_copy_94 : decode cX12_copy 94 = .ok (.iload 5, 2) := by decide +kernel
theorem dX12_copy_96 : decode cX12_copy 96 = .ok (.if_icmp .ge 30, 3) := by decide +kernel
theorem dX12_copy_99 : decode cX12_copy 99 = .ok (.aload_n 0, 1) := by decide +kernel
theorem dX12_copy_100 : decode cX12_copy 100 = .ok (.getfield 64, 3) := by decide +kernel
theorem dX12_copy_103 : decode cX12_copy 103 = .ok (.iload 6, 2) := by decide +kernel
theorem dX12_copy_105 : decode cX12_copy 105 = .ok (.aload_n 0, 1) := by decide +kernel
theorem dX12_copy_106 : decode cX12_copy 106 = .ok (.getfield 58, 3) := by decide +kernel
theorem dX12_copy_109 : decode cX12_copy 109 = .ok (.bipush 20, 2) := by decide +kernel
theorem dX12_copy_111 : decode cX12_copy 111 = .ok (.iload_n 1, 1) := by decide +kernel
theorem dX12_copy_112 : decode cX12_copy 112 = .ok (.imul, 1) := by decide +kernel
theorem dX12_copy_113 : decode cX12_copy 113 = .ok (.iload_n 2, 1) := by decide +kernel
theorem dX12_copy_114 : decode cX12_copy 114 = .ok (.iadd, 1) := by decide +kernel
theorem dX12_copy_115 : decode cX12_copy 115 = .ok (.iload 6, 2) := by decide +kernel
theorem dX12_copy_117 : decode cX12_copy 117 = .ok (.iadd, 1) := by decide +kernel
theorem dX12_copy_118 : decode cX12_copy 118 = .ok (.iaload, 1) := by decide +kernel
theorem dX12_copy_119 : decode cX12_copy 119 = .ok (.iastore, 1) := by decide +kernel
theorem dX12_copy_120 : decode cX12_copy 120 = .ok (.iinc 6 1, 3) := by decide +kernel
theorem dX12_copy_123 : decode cX12_copy 123 = .ok (.goto (-31), 3) := by decide +kernel
theorem dX12_copy_126 : decode cX12_copy 126 = .ok (.iconst 0, 1) := by decide +kernel
theorem dX12_copy_127 : decode cX12_copy 127 = .ok (.istore 6, 2) := by decide +kernel
theorem dX12_copy_129 : decode cX12_copy 129 = .ok (.iload 6, 2) := by decide +kernel
theorem dX12_copy_131 : decode cX12_copy 131 = .ok (.iload 5, 2) := by decide +kernel
theorem dX12_copy_133 : decode cX12_copy 133 = .ok (.if_icmp .ge 31, 3) := by decide +kernel
theorem dX12_copy_136 : decode cX12_copy 136 = .ok (.aload_n 0, 1) := by decide +kernel
theorem dX12_copy_137 : decode cX12_copy 137 = .ok (.getfield 58, 3) := by decide +kernel
theorem dX12_copy_140 : decode cX12_copy 140 = .ok (.bipush 20, 2) := by decide +kernel
theorem dX12_copy_142 : decode cX12_copy 142 = .ok (.iload_n 3, 1) := by decide +kernel
theorem dX12_copy_143 : decode cX12_copy 143 = .ok (.imul, 1) := by decide +kernel
theorem dX12_copy_144 : decode cX12_copy 144 = .ok (.iload 4, 2) := by decide +kernel
theorem dX12_copy_146 : decode cX12_copy 146 = .ok (.iadd, 1) := by decide +kernel
theorem dX12_copy_147 : decode cX12_copy 147 = .ok (.iload 6, 2) := by decide +kernel
theorem dX12_copy_149 : decode cX12_copy 149 = .ok (.iadd, 1) := by decide +kernel
theorem dX12_copy_150 : decode cX12_copy 150 = .ok (.aload_n 0, 1) := by decide +kernel
theorem dX12_copy_151 : decode cX12_copy 151 = .ok (.getfield 64, 3) := by decide +kernel
theorem dX12_copy_154 : decode cX12_copy 154 = .ok (.iload 6, 2) := by decide +kernel
theorem dX12_copy_156 : decode cX12_copy 156 = .ok (.iaload, 1) := by decide +kernel
theorem dX12_copy_157 : decode cX12_copy 157 = .ok (.iastore, 1) := by decide +kernel
theorem dX12_copy_158 : decode cX12_copy 158 = .ok (.iinc 6 1, 3) := by decide +kernel
theorem dX12_copy_161 : decode cX12_copy 161 = .ok (.goto (-32), 3) := by decide +kernel
theorem dX12_copy_164 : decode cX12_copy 164 = .ok (.iload 5, 2) := by decide +kernel
theorem dX12_copy_166 : decode cX12_copy 166 = .ok (.ireturn, 1) := by decide +kernel
theorem dX12_count_0 : decode cX12_count 0 = .ok (.iconst 0, 1) := by decide +kernel
theorem dX12_count_1 : decode cX12_count 1 = .ok (.istore_n 2, 1) := by decide +kernel
theorem dX12_count_2 : decode cX12_count 2 = .ok (.iload_n 1, 1) := by decide +kernel
theorem dX12_count_3 : decode cX12_count 3 = .ok (.tableswitch 214 0 12 #[65, 72, 79, 87, 95, 103, 111, 119, 127, 132, 137, 144, 176], 65) := by decide +kernel
theorem dX12_count_68 : decode cX12_count 68 = .ok (.aload_n 0, 1) := by decide +kernel
theorem dX12_count_69 : decode cX12_count 69 = .ok (.getfield 7, 3) := by decide +kernel
theorem dX12_count_72 : decode cX12_count 72 = .ok (.iconst 4, 1) := by decide +kernel
theorem dX12_count_73 : decode cX12_count 73 = .ok (.iaload, 1) := by decide +kernel
theorem dX12_count_74 : decode cX12_count 74 = .ok (.ireturn, 1) := by decide +kernel
theorem dX12_count_75 : decode cX12_count 75 = .ok (.aload_n 0, 1) := by decide +kernel
theorem dX12_count_76 : decode cX12_count 76 = .ok (.getfield 7, 3) := by decide +kernel
theorem dX12_count_79 : decode cX12_count 79 = .ok (.iconst 5, 1) := by decide +kernel
theorem dX12_count_80 : decode cX12_count 80 = .ok (.iaload, 1) := by decide +kernel
theorem dX12_count_81 : decode cX12_count 81 = .ok (.ireturn, 1) := by decide +kernel
theorem dX12_count_82 : decode cX12_count 82 = .ok (.aload_n 0, 1) := by decide +kernel
theorem dX12_count_83 : decode cX12_count 83 = .ok (.getfield 7, 3) := by decide +kernel
theorem dX12_count_86 : decode cX12_count 86 = .ok (.bipush 6, 2) := by decide +kernel
theorem dX12_count_88 : decode cX12_count 88 = .ok (.iaload, 1) := by decide +kernel
theorem dX12_count_89 : decode cX12_count 89 = .ok (.ireturn, 1) := by decide +kernel
theorem dX12_count_90 : decode cX12_count 90 = .ok (.aload_n 0, 1) := by decide +kernel
theorem dX12_count_91 : decode cX12_count 91 = .ok (.getfield 7, 3) := by decide +kernel
theorem dX12_count_94 : decode cX12_count 94 = .ok (.bipush 7, 2) := by decide +kernel
theorem dX12_count_96 : decode cX12_count 96 = .ok (.iaload, 1) := by decide +kernel
theorem dX12_count_97 : decode cX12_count 97 = .ok (.ireturn, 1) := by decide +kernel
theorem dX12_count_98 : decode cX12_count 98 = .ok (.aload_n 0, 1) := by decide +kernel
theorem dX12_count_99 : decode cX12_count 99 = .ok (.getfield 7, 3) := by decide +kernel
theorem dX12_count_102 : decode cX12_count 102 = .ok (.bipush 8, 2) := by decide +kernel
theorem dX12_count_104 : decode cX12_count 104 = .ok (.iaload, 1) := by decide +kernel
theorem dX12_count_105 : decode cX12_count 105 = .ok (.ireturn, 1) := by decide +kernel
theorem dX12_count_106 : decode cX12_count 106 = .ok (.aload_n 0, 1) := by decide +kernel
theorem dX12_count_107 : decode cX12_count 107 = .ok (.getfield 7, 3) := by decide +kernel
theorem dX12_count_110 : decode cX12_count 110 = .ok (.bipush 9, 2) := by decide +kernel
theorem dX12_count_112 : decode cX12_count 112 = .ok (.iaload, 1) := by decide +kernel
theorem dX12_count_113 : decode cX12_count 113 = .ok (.ireturn, 1) := by decide +kernel
theorem dX12_count_114 : decode cX12_count 114 = .ok (.aload_n 0, 1) := by decide +kernel
theorem dX12_count_115 : decode cX12_count 115 = .ok (.getfield 7, 3) := by decide +kernel
theorem dX12_count_118 : decode cX12_count 118 = .ok (.bipush 10, 2) := by decide +kernel
theorem dX12_count_120 : decode cX12_count 120 = .ok (.iaload, 1) := by decide +kernel
theorem dX12_count_121 : decode cX12_count 121 = .ok (.ireturn, 1) := by decide +kernel
theorem dX12_count_122 : decode cX12_count 122 = .ok (.aload_n 0, 1) := by decide +kernel
theorem dX12_count_123 : decode cX12_count 123 = .ok (.getfield 7, 3) := by decide +kernel
theorem dX12_count_126 : decode cX12_count 126 = .ok (.bipush 11, 2) := by decide +kernel
theorem dX12_count_128 : decode cX12_count 128 = .ok (.iaload, 1) := by decide +kernel
theorem dX12_count_129 : decode cX12_count 129 = .ok (.ireturn, 1) := by decide +kernel
theorem dX12_count_130 : decode cX12_count 130 = .ok (.aload_n 0, 1) := by decide +kernel
theorem dX12_count_131 : decode cX12_count 131 = .ok (.getfield 267, 3) := by decide +kernel
theorem dX12_count_134 : decode cX12_count 134 = .ok (.ireturn, 1) := by decide +kernel
theorem dX12_count_135 : decode cX12_count 135 = .ok (.aload_n 0, 1) := by decide +kernel
theorem dX12_count_136 : decode cX12_count 136 = .ok (.getfield 113, 3) := by decide +kernel
theorem dX12_count_139 : decode cX12_count 139 = .ok (.ireturn, 1) := by decide +kernel
theorem dX12_count_140 : decode cX12_count 140 = .ok (.aload_n 0, 1) := by decide +kernel
theorem dX12_count_141 : decode cX12_count 141 = .ok (.getfield 7, 3) := by decide +kernel
theorem dX12_count_144 : decode cX12_count 144 = .ok (.iconst 0, 1) := by decide +kernel
theorem dX12_count_145 : decode cX12_count 145 = .ok (.iaload, 1) := by decide +kernel
theorem dX12_count_146 : decode cX12_count 146 = .ok (.ireturn, 1) := by decide +kernel
theorem dX12_count_147 : decode cX12_count 147 = .ok (.iconst 0, 1) := by decide +kernel
theorem dX12_count_148 : decode cX12_count 148 = .ok (.istore_n 3, 1) := by decide +kernel
theorem dX12_count_149 : decode cX12_count 149 = .ok (.iload_n 3, 1) := by decide +kernel
theorem dX12_count_150 : decode cX12_count 150 = .ok (.aload_n 0, 1) := by decide +kernel
theorem dX12_count_151 : decode cX12_count 151 = .ok (.getfield 7, 3) := by decide +kernel
theorem dX12_count_154 : decode cX12_count 154 = .ok (.iconst 5, 1) := by decide +kernel
theorem dX12_count_155 : decode cX12_count 155 = .ok (.iaload, 1) := by decide +kernel
theorem dX12_count_156 : decode cX12_count 156 = .ok (.if_icmp .ge 21, 3) := by decide +kernel
theorem dX12_count_159 : decode cX12_count 159 = .ok (.iload_n 2, 1) := by decide +kernel
theorem dX12_count_160 : decode cX12_count 160 = .ok (.aload_n 0, 1) := by decide +kernel
theorem dX12_count_161 : decode cX12_count 161 = .ok (.getfield 7, 3) := by decide +kernel
theorem dX12_count_164 : decode cX12_count 164 = .ok (.bipush 44, 2) := by decide +kernel
theorem dX12_count_166 : decode cX12_count 166 = .ok (.iload_n 3, 1) := by decide +kernel
theorem dX12_count_167 : decode cX12_count 167 = .ok (.iadd, 1) := by decide +kernel
theorem dX12_count_168 : decode cX12_count 168 = .ok (.iaload, 1) := by decide +kernel
theorem dX12_count_169 : decode cX12_count 169 = .ok (.iadd, 1) := by decide +kernel
theorem dX12_count_170 : decode cX12_count 170 = .ok (.istore_n 2, 1) := by decide +kernel
theorem dX12_count_171 : decode cX12_count 171 = .ok (.iinc 3 1, 3) := by decide +kernel
theorem dX12_count_174 : decode cX12_count 174 = .ok (.goto (-25), 3) := by decide +kernel
theorem dX12_count_177 : decode cX12_count 177 = .ok (.iload_n 2, 1) := by decide +kernel
theorem dX12_count_178 : decode cX12_count 178 = .ok (.ireturn, 1) := by decide +kernel
theorem dX12_count_179 : decode cX12_count 179 = .ok (.iconst 0, 1) := by decide +kernel
theorem dX12_count_180 : decode cX12_count 180 = .ok (.istore_n 3, 1) := by decide +kernel
theorem dX12_count_181 : decode cX12_count 181 = .ok (.iload_n 3, 1) := by decide +kernel
theorem dX12_count_182 : decode cX12_count 182 = .ok (.aload_n 0, 1) := by decide +kernel
theorem dX12_count_183 : decode cX12_count 183 = .ok (.getfield 7, 3) := by decide +kernel
theorem dX12_count_186 : decode cX12_count 186 = .ok (.bipush 6, 2) := by decide +kernel
theorem dX12_count_188 : decode cX12_count 188 = .ok (.iaload, 1) := by decide +kernel
theorem dX12_count_189 : decode cX12_count 189 = .ok (.if_icmp .ge 26, 3) := by decide +kernel
theorem dX12_count_192 : decode cX12_count 192 = .ok (.iload_n 2, 1) := by decide +kernel
theorem dX12_count_193 : decode cX12_count 193 = .ok (.aload_n 0, 1) := by decide +kernel
theorem dX12_count_194 : decode cX12_count 194 = .ok (.getfield 7, 3) := by decide +kernel
theorem dX12_count_197 : decode cX12_count 197 = .ok (.bipush 50, 2) := by decide +kernel
theorem dX12_count_199 : decode cX12_count 199 = .ok (.bipush 20, 2) := by decide +kernel
theorem dX12_count_201 : decode cX12_count 201 = .ok (.iload_n 3, 1) := by decide +kernel
theorem dX12_count_202 : decode cX12_count 202 = .ok (.imul, 1) := by decide +kernel
theorem dX12_count_203 : decode cX12_count 203 = .ok (.iadd, 1) := by decide +kernel
theorem dX12_count_204 : decode cX12_count 204 = .ok (.iconst 3, 1) := by decide +kernel
theorem dX12_count_205 : decode cX12_count 205 = .ok (.iadd, 1) := by decide +kernel
theorem dX12_count_206 : decode cX12_count 206 = .ok (.iaload, 1) := by decide +kernel
theorem dX12_count_207 : decode cX12_count 207 = .ok (.iadd, 1) := by decide +kernel
theorem dX12_count_208 : decode cX12_count 208 = .ok (.istore_n 2, 1) := by decide +kernel
theorem dX12_count_209 : decode cX12_count 209 = .ok (.iinc 3 1, 3) := by decide +kernel
theorem dX12_count_212 : decode cX12_count 212 = .ok (.goto (-31), 3) := by decide +kernel
theorem dX12_count_215 : decode cX12_count 215 = .ok (.iload_n 2, 1) := by decide +kernel
theorem dX12_count_216 : decode cX12_count 216 = .ok (.ireturn, 1) := by decide +kernel
theorem dX12_count_217 : decode cX12_count 217 = .ok (.ldc 72, 2) := by decide +kernel
theorem dX12_count_219 : decode cX12_count 219 = .ok (.ireturn, 1) := by decide +kernel
