theorem dX6_init_0 : decode cX6_init 0 = .ok (.aload_n 0, 1) := by decide +kernel
theorem dX6_init_1 : decode cX6_init 1 = .ok (.invokespecial 1, 3) := by decide +kernel
theorem dX6_init_4 : decode cX6_init 4 = .ok (.aload_n 0, 1) := by decide +kernel
theorem dX6_init_5 : decode cX6_init 5 = .ok (.iconst 1, 1) := by decide +kernel
theorem dX6_init_6 : decode cX6_init 6 = .ok (.putfield 7, 3) := by decide +kernel
theorem dX6_init_9 : decode cX6_init 9 = .ok (.aload_n 0, 1) := by decide +kernel
theorem dX6_init_10 : decode cX6_init 10 = .ok (.bipush 14, 2) := by decide +kernel
theorem dX6_init_12 : decode cX6_init 12 = .ok (.newarray .int, 2) := by decide +kernel
theorem dX6_init_14 : decode cX6_init 14 = .ok (.putfield 13, 3) := by decide +kernel
theorem dX6_init_17 : decode cX6_init 17 = .ok (.aload_n 0, 1) := by decide +kernel
theorem dX6_init_18 : decode cX6_init 18 = .ok (.bipush 14, 2) := by decide +kernel
theorem dX6_init_20 : decode cX6_init 20 = .ok (.newarray .int, 2) := by decide +kernel
theorem dX6_init_22 : decode cX6_init 22 = .ok (.putfield 17, 3) := by decide +kernel
theorem dX6_init_25 : decode cX6_init 25 = .ok (.aload_n 0, 1) := by decide +kernel
theorem dX6_init_26 : decode cX6_init 26 = .ok (.bipush 14, 2) := by decide +kernel
theorem dX6_init_28 : decode cX6_init 28 = .ok (.bipush 6, 2) := by decide +kernel
theorem dX6_init_30 : decode cX6_init 30 = .ok (.multianewarray 20 2, 4) := by decide +kernel
theorem dX6_init_34 : decode cX6_init 34 = .ok (.putfield 22, 3) := by decide +kernel
theorem dX6_init_37 : decode cX6_init 37 = .ok (.aload_n 0, 1) := by decide +kernel
theorem dX6_init_38 : decode cX6_init 38 = .ok (.bipush 14, 2) := by decide +kernel
theorem dX6_init_40 : decode cX6_init 40 = .ok (.iconst 3, 1) := by decide +kernel
theorem dX6_init_41 : decode cX6_init 41 = .ok (.multianewarray 20 2, 4) := by decide +kernel
theorem dX6_init_45 : decode cX6_init 45 = .ok (.putfield 25, 3) := by decide +kernel
theorem dX6_init_48 : decode cX6_init 48 = .ok (.aload_n 0, 1) := by decide +kernel
theorem dX6_init_49 : decode cX6_init 49 = .ok (.bipush 9, 2) := by decide +kernel
theorem dX6_init_51 : decode cX6_init 51 = .ok (.sipush 160, 3) := by decide +kernel
theorem dX6_init_54 : decode cX6_init 54 = .ok (.multianewarray 20 2, 4) := by decide +kernel
theorem dX6_init_58 : decode cX6_init 58 = .ok (.putfield 28, 3) := by decide +kernel
theorem dX6_init_61 : decode cX6_init 61 = .ok (.aload_n 0, 1) := by decide +kernel
theorem dX6_init_62 : decode cX6_init 62 = .ok (.sipush 160, 3) := by decide +kernel
theorem dX6_init_65 : decode cX6_init 65 = .ok (.newarray .int, 2) := by decide +kernel
theorem dX6_init_67 : decode cX6_init 67 = .ok (.putfield 31, 3) := by decide +kernel
theorem dX6_init_70 : decode cX6_init 70 = .ok (.aload_n 0, 1) := by decide +kernel
theorem dX6_init_71 : decode cX6_init 71 = .ok (.bipush 30, 2) := by decide +kernel
theorem dX6_init_73 : decode cX6_init 73 = .ok (.newarray .char, 2) := by decide +kernel
theorem dX6_init_75 : decode cX6_init 75 = .ok (.putfield 34, 3) := by decide +kernel
theorem dX6_init_78 : decode cX6_init 78 = .ok (.aload_n 0, 1) := by decide +kernel
theorem dX6_init_79 : decode cX6_init 79 = .ok (.iconst (-1), 1) := by decide +kernel
theorem dX6_init_80 : decode cX6_init 80 = .ok (.putfield 38, 3) := by decide +kernel
theorem dX6_init_83 : decode cX6_init 83 = .ok (.aload_n 0, 1) := by decide +kernel
theorem dX6_init_84 : decode cX6_init 84 = .ok (.bipush 6, 2) := by decide +kernel
theorem dX6_init_86 : decode cX6_init 86 = .ok (.newarray .int, 2) := by decide +kernel
theorem dX6_init_88 : decode cX6_init 88 = .ok (.putfield 41, 3) := by decide +kernel
theorem dX6_init_91 : decode cX6_init 91 = .ok (.aload_n 0, 1) := by decide +kernel
theorem dX6_init_92 : decode cX6_init 92 = .ok (.iconst 3, 1) := by decide +kernel
theorem dX6_init_93 : decode cX6_init 93 = .ok (.newarray .int, 2) := by decide +kernel
theorem dX6_init_95 : decode cX6_init 95 = .ok (.putfield 44, 3) := by decide +kernel
theorem dX6_init_98 : decode cX6_init 98 = .ok (.aload_n 0, 1) := by decide +kernel
theorem dX6_init_99 : decode cX6_init 99 = .ok (.bipush 14, 2) := by decide +kernel
theorem dX6_init_101 : decode cX6_init 101 = .ok (.newarray .int, 2) := by decide +kernel
theorem dX6_init_103 : decode cX6_init 103 = .ok (.putfield 47, 3) := by decide +kernel
theorem dX6_init_106 : decode cX6_init 106 = .ok (.aload_n 0, 1) := by decide +kernel
theorem dX6_init_107 : decode cX6_init 107 = .ok (.bipush 14, 2) := by decide +kernel
theorem dX6_init_109 : decode cX6_init 109 = .ok (.newarray .int, 2) := by decide +kernel
theorem dX6_init_111 : decode cX6_init 111 = .ok (.putfield 50, 3) := by decide +kernel
theorem dX6_init_114 : decode cX6_init 114 = .ok (.aload_n 0, 1) := by decide +kernel
theorem dX6_init_115 : decode cX6_init 115 = .ok (.bipush 14, 2) := by decide +kernel
theorem dX6_init_117 : decode cX6_init 117 = .ok (.newarray .int, 2) := by decide +kernel
theorem dX6_init_119 : decode cX6_init 119 = .ok (.putfield 53, 3) := by decide +kernel
theorem dX6_init_122 : decode cX6_init 122 = .ok (.aload_n 0, 1) := by decide +kernel
theorem dX6_init_123 : decode cX6_init 123 = .ok (.bipush 14, 2) := by decide +kernel
theorem dX6_init_125 : decode cX6_init 125 = .ok (.newarray .int, 2) := by decide +kernel
theorem dX6_init_127 : decode cX6_init 127 = .ok (.putfield 56, 3) := by decide +kernel
theorem dX6_init_130 : decode cX6_init 130 = .ok (.aload_n 0, 1) := by decide +kernel
theorem dX6_init_131 : decode cX6_init 131 = .ok (.iconst 4, 1) := by decide +kernel
theorem dX6_init_132 : decode cX6_init 132 = .ok (.newarray .int, 2) := by decide +kernel
theorem dX6_init_134 : decode cX6_init 134 = .ok (.putfield 59, 3) := by decide +kernel
theorem dX6_init_137 : decode cX6_init 137 = .ok (.aload_n 0, 1) := by decide +kernel
theorem dX6_init_138 : decode cX6_init 138 = .ok (.iconst 4, 1) := by decide +kernel
theorem dX6_init_139 : decode cX6_init 139 = .ok (.newarray .int, 2) := by decide +kernel
theorem dX6_init_141 : decode cX6_init 141 = .ok (.putfield 62, 3) := by decide +kernel
theorem dX6_init_144 : decode cX6_init 144 = .ok (.aload_n 0, 1) := by decide +kernel
theorem dX6_init_145 : decode cX6_init 145 = .ok (.iconst 4, 1) := by decide +kernel
theorem dX6_init_146 : decode cX6_init 146 = .ok (.newarray .int, 2) := by decide +kernel
theorem dX6_init_148 : decode cX6_init 148 = .ok (.putfield 65, 3) := by decide +kernel
theorem dX6_init_151 : decode cX6_init 151 = .ok (.aload_n 0, 1) := by decide +kernel
theorem dX6_init_152 : decode cX6_init 152 = .ok (.bipush 14, 2) := by decide +kernel
theorem dX6_init_154 : decode cX6_init 154 = .ok (.iconst 4, 1) := by decide +kernel
theorem dX6_init_155 : decode cX6_init 155 = .ok (.multianewarray 20 2, 4) := by decide +kernel
theorem dX6_init_159 : decode cX6_init 159 = .ok (.putfield 68, 3) := by decide +kernel
theorem dX6_init_162 : decode cX6_init 162 = .ok (.aload_n 0, 1) := by decide +kernel
theorem dX6_init_163 : decode cX6_init 163 = .ok (.bipush 14, 2) := by decide +kernel
theorem dX6_init_165 : decode cX6_init 165 = .ok (.iconst 4, 1) := by decide +kernel
theorem dX6_init_166 : decode cX6_init 166 = .ok (.multianewarray 20 2, 4) := by decide +kernel
theorem dX6_init_170 : decode cX6_init 170 = .ok (.putfield 71, 3) := by decide +kernel
theorem dX6_init_173 : decode cX6_init 173 = .ok (.aload_n 0, 1) := by decide +kernel
theorem dX6_init_174 : decode cX6_init 174 = .ok (.iconst 4, 1) := by decide +kernel
theorem dX6_init_175 : decode cX6_init 175 = .ok (.newarray .int, 2) := by decide +kernel
theorem dX6_init_177 : decode cX6_init 177 = .ok (.putfield 74, 3) := by decide +kernel
theorem dX6_init_180 : decode cX6_init 180 = .ok (.aload_n 0, 1) := by decide +kernel
theorem dX6_init_181 : decode cX6_init 181 = .ok (.bipush 14, 2) := by decide +kernel
theorem dX6_init_183 : decode cX6_init 183 = .ok (.bipush 6, 2) := by decide +kernel
theorem dX6_init_185 : decode cX6_init 185 = .ok (.multianewarray 20 2, 4) := by decide +kernel
theorem dX6_init_189 : decode cX6_init 189 = .ok (.putfield 77, 3) := by decide +kernel
theorem dX6_init_192 : decode cX6_init 192 = .ok (.aload_n 0, 1) := by decide +kernel
theorem dX6_init_193 : decode cX6_init 193 = .ok (.bipush 31, 2) := by decide +kernel
theorem dX6_init_195 : decode cX6_init 195 = .ok (.newarray .int, 2) := by decide +kernel
theorem dX6_init_197 : decode cX6_init 197 = .ok (.putfield 80, 3) := by decide +kernel
theorem dX6_init_200 : decode cX6_init 200 = .ok (.return_, 1) := by decide +kernel
theorem dX6_thrown_0 : decode cX6_thrown 0 = .ok (.aload_n 0, 1) := by decide +kernel
theorem dX6_thrown_1 : decode cX6_thrown 1 = .ok (.getfield 83, 3) := by decide +kernel
theorem dX6_thrown_4 : decode cX6_thrown 4 = .ok (.ireturn, 1) := by decide +kernel
theorem dX6_isBetween_0 : decode cX6_isBetween 0 = .ok (.iload_n 0, 1) := by decide +kernel
theorem dX6_isBetween_1 : decode cX6_isBetween 1 = .ok (.iload_n 1, 1) := by decide +kernel
theorem dX6_isBetween_2 : decode cX6_isBetween 2 = .ok (.if_icmp .lt 12, 3) := by decide +kernel
theorem dX6_isBetween_5 : decode cX6_isBetween 5 = .ok (.iload_n 0, 1) := by decide +kernel
theorem dX6_isBetween_6 : decode cX6_isBetween 6 = .ok (.iload_n 2, 1) := by decide +kernel
theorem dX6_isBetween_7 : decode cX6_isBetween 7 = .ok (.if_icmp .gt 7, 3) := by decide +kernel
theorem dX6_isBetween_10 : decode cX6_isBetween 10 = .ok (.iconst 1, 1) := by decide +kernel
theorem dX6_isBetween_11 : decode cX6_isBetween 11 = .ok (.goto 4, 3) := by decide +kernel
theorem dX6_isBetween_14 : decode cX6_isBetween 14 = .ok (.iconst 0, 1) := by decide +kernel
theorem dX6_isBetween_15 : decode cX6_isBetween 15 = .ok (.ireturn, 1) := by decide +kernel
theorem dX6_has_0 : decode cX6_has 0 = .ok (.iload_n 0, 1) := by decide +kernel
theorem dX6_has_1 : decode cX6_has 1 = .ok (.iload_n 1, 1) := by decide +kernel
theorem dX6_has_2 : decode cX6_has 2 = .ok (.ishr, 1) := by decide +kernel
theorem dX6_has_3 : decode cX6_has 3 = .ok (.iconst 1, 1) := by decide +kernel
theorem dX6_has_4 : decode cX6_has 4 = .ok (.iand, 1) := by decide +kernel
theorem dX6_has_5 : decode cX6_has 5 = .ok (.iconst 1, 1) := by decide +kernel
theorem dX6_has_6 : decode cX6_has 6 = .ok (.if_icmp .ne 7, 3) := by decide +kernel
theorem dX6_has_9 : decode cX6_has 9 = .ok (.iconst 1, 1) := by decide +kernel
theorem dX6_has_10 : decode cX6_has 10 = .ok (.goto 4, 3) := by decide +kernel
theorem dX6_has_13 : decode cX6_has 13 = .ok (.iconst 0, 1) := by decide +kernel
theorem dX6_has_14 : decode cX6_has 14 = .ok (.ireturn, 1) := by decide +kernel
theorem dX6_fails_0 : decode cX6_fails 0 = .ok (.aload_n 0, 1) := by decide +kernel
theorem dX6_fails_1 : decode cX6_fails 1 = .ok (.iload_n 2, 1) := by decide +kernel
theorem dX6_fails_2 : decode cX6_fails 2 = .ok (.ifCond .eq 7, 3) := by decide +kernel
theorem dX6_fails_5 : decode cX6_fails 5 = .ok (.iload_n 1, 1) := by decide +kernel
theorem dX6_fails_6 : decode cX6_fails 6 = .ok (.goto 4, 3) := by decide +kernel
theorem dX6_fails_9 : decode cX6_fails 9 = .ok (.iconst 0, 1) := by decide +kernel
theorem dX6_fails_10 : decode cX6_fails 10 = .ok (.putfield 83, 3) := by decide +kernel
theorem dX6_fails_13 : decode cX6_fails 13 = .ok (.iload_n 2, 1) := by decide +kernel
theorem dX6_fails_14 : decode cX6_fails 14 = .ok (.ireturn, 1) := by decide +kernel
theorem dX6_isBlock_0 : decode cX6_isBlock 0 = .ok (.iload_n 1, 1) := by decide +kernel
theorem dX6_isBlock_1 : decode cX6_isBlock 1 = .ok (.iconst 0, 1) := by decide +kernel
theorem dX6_isBlock_2 : decode cX6_isBlock 2 = .ok (.aload_n 0, 1) := by decide +kernel
theorem dX6_isBlock_3 : decode cX6_isBlock 3 = .ok (.getfield 7, 3) := by decide +kernel
theorem dX6_isBlock_6 : decode cX6_isBlock 6 = .ok (.iconst 1, 1) := by decide +kernel
theorem dX6_isBlock_7 : decode cX6_isBlock 7 = .ok (.isub, 1) := by decide +kernel
theorem dX6_isBlock_8 : decode cX6_isBlock 8 = .ok (.invokestatic 86, 3) := by decide +kernel
theorem dX6_isBlock_11 : decode cX6_isBlock 11 = .ok (.ireturn, 1) := by decide +kernel
theorem dX6_isVariable_0 : decode cX6_isVariable 0 = .ok (.iload_n 0, 1) := by decide +kernel
theorem dX6_isVariable_1 : decode cX6_isVariable 1 = .ok (.iconst 0, 1) := by decide +kernel
theorem dX6_isVariable_2 : decode cX6_isVariable 2 = .ok (.iconst 3, 1) := by decide +kernel
theorem dX6_isVariable_3 : decode cX6_isVariable 3 = .ok (.invokestatic 86, 3) := by decide +kernel
theorem dX6_isVariable_6 : decode cX6_isVariable 6 = .ok (.ireturn, 1) := by decide +kernel
theorem dX6_write_0 : decode cX6_write 0 = .ok (.iconst 0, 1) := by decide +kernel
theorem dX6_write_1 : decode cX6_write 1 = .ok (.istore_n 2, 1) := by decide +kernel
theorem dX6_write_2 : decode cX6_write 2 = .ok (.aload_n 1, 1) := by decide +kernel
theorem dX6_write_3 : decode cX6_write 3 = .ok (.iload_n 2, 1) := by decide +kernel
theorem dX6_write_4 : decode cX6_write 4 = .ok (.aload_n 0, 1) := by decide +kernel
theorem dX6_write_5 : decode cX6_write 5 = .ok (.getfield 7, 3) := by decide +kernel
theorem dX6_write_8 : decode cX6_write 8 = .ok (.iastore, 1) := by decide +kernel
theorem dX6_write_9 : decode cX6_write 9 = .ok (.iinc 2 1, 3) := by decide +kernel
theorem dX6_write_12 : decode cX6_write 12 = .ok (.iconst 0, 1) := by decide +kernel
theorem dX6_write_13 : decode cX6_write 13 = .ok (.istore_n 3, 1) := by decide +kernel
theorem dX6_write_14 : decode cX6_write 14 = .ok (.iload_n 3, 1) := by decide +kernel
theorem dX6_write_15 : decode cX6_write 15 = .ok (.bipush 14, 2) := by decide +kernel
theorem dX6_write_17 : decode cX6_write 17 = .ok (.if_icmp .ge 94, 3) := by decide +kernel
theorem dX6_write_20 : decode cX6_write 20 = .ok (.aload_n 1, 1) := by decide +kernel
theorem dX6_write_21 : decode cX6_write 21 = .ok (.iload_n 2, 1) := by decide +kernel
theorem dX6_write_22 : decode cX6_write 22 = .ok (.aload_n 0, 1) := by decide +kernel
theorem dX6_write_23 : decode cX6_write 23 = .ok (.getfield 13, 3) := by decide +kernel
theorem dX6_write_26 : decode cX6_write 26 = .ok (.iload_n 3, 1) := by decide +kernel
theorem dX6_write_27 : decode cX6_write 27 = .ok (.iaload, 1) := by decide +kernel
theorem dX6_write_28 : decode cX6_write 28 = .ok (.iastore, 1) := by decide +kernel
theorem dX6_write_29 : decode cX6_write 29 = .ok (.iinc 2 1, 3) := by decide +kernel
theorem dX6_write_32 : decode cX6_write 32 = .ok (.aload_n 1, 1) := by decide +kernel
theorem dX6_write_33 : decode cX6_write 33 = .ok (.iload_n 2, 1) := by decide +kernel
theorem dX6_write_34 : decode cX6_write 34 = .ok (.aload_n 0, 1) := by decide +kernel
theorem dX6_write_35 : decode cX6_write 35 = .ok (.getfield 17, 3) := by decide +kernel
theorem dX6_write_38 : decode cX6_write 38 = .ok (.iload_n 3, 1) := by decide +kernel
theorem dX6_write_39 : decode cX6_write 39 = .ok (.iaload, 1) := by decide +kernel
theorem dX6_write_40 : decode cX6_write 40 = .ok (.iastore, 1) := by decide +kernel
theorem dX6_write_41 : decode cX6_write 41 = .ok (.iinc 2 1, 3) := by decide +kernel
theorem dX6_write_44 : decode cX6_write 44 = .ok (.iconst 0, 1) := by decide +kernel
theorem dX6_write_45 : decode cX6_write 45 = .ok (.istore 4, 2) := by decide +kernel
theorem dX6_write_47 : decode cX6_write 47 = .ok (.iload 4, 2) := by decide +kernel
theorem dX6_write_49 : decode cX6_write 49 = .ok (.bipush 6, 2) := by decide +kernel
theorem dX6_write_51 : decode cX6_write 51 = .ok (.if_icmp .ge 24, 3) := by decide +kernel
theorem dX6_write_54 : decode cX6_write 54 = .ok (.aload_n 1, 1) := by decide +kernel
theorem dX6_write_55 : decode cX6_write 55 = .ok (.iload_n 2, 1) := by decide +kernel
theorem dX6_write_56 : decode cX6_write 56 = .ok (.aload_n 0, 1) := by decide +kernel
theorem dX6_write_57 : decode cX6_write 57 = .ok (.getfield 22, 3) := by decide +kernel
theorem dX6_write_60 : decode cX6_write 60 = .ok (.iload_n 3, 1) := by decide +kernel
theorem dX6_write_61 : decode cX6_write 61 = .ok (.aaload, 1) := by decide +kernel
theorem dX6_write_62 : decode cX6_write 62 = .ok (.iload 4, 2) := by decide +kernel
theorem dX6_write_64 : decode cX6_write 64 = .ok (.iaload, 1) := by decide +kernel
theorem dX6_write_65 : decode cX6_write 65 = .ok (.iastore, 1) := by decide +kernel
theorem dX6_write_66 : decode cX6_write 66 = .ok (.iinc 2 1, 3) := by decide +kernel
theorem dX6_write_69 : decode cX6_write 69 = .ok (.iinc 4 1, 3) := by decide +kernel
theorem dX6_write_72 : decode cX6_write 72 = .ok (.goto (-25), 3) := by decide +kernel
theorem dX6_write_75 : decode cX6_write 75 = .ok (.iconst 0, 1) := by decide +kernel
theorem dX6_write_76 : decode cX6_write 76 = .ok (.istore 4, 2) := by decide +kernel
theorem dX6_write_78 : decode cX6_write 78 = .ok (.iload 4, 2) := by decide +kernel
theorem dX6_write_80 : decode cX6_write 80 = .ok (.iconst 3, 1) := by decide +kernel
theorem dX6_write_81 : decode cX6_write 81 = .ok (.if_icmp .ge 24, 3) := by decide +kernel
theorem dX6_write_84 : decode cX6_write 84 = .ok (.aload_n 1, 1) := by decide +kernel
theorem dX6_write_85 : decode cX6_write 85 = .ok (.iload_n 2, 1) := by decide +kernel
theorem dX6_write_86 : decode cX6_write 86 = .ok (.aload_n 0, 1) := by decide +kernel
theorem dX6_write_87 : decode cX6_write 87 = .ok (.getfield 25, 3) := by decide +kernel
theorem dX6_write_90 : decode cX6_write 90 = .ok (.iload_n 3, 1) := by decide +kernel
theorem dX6_write_91 : decode cX6_write 91 = .ok (.aaload, 1) := by decide +kernel
theorem dX6_write_92 : decode cX6_write 92 = .ok (.iload 4, 2) := by decide +kernel
theorem dX6_write_94 : decode cX6_write 94 = .ok (.iaload, 1) := by decide +kernel
theorem dX6_write_95 : decode cX6_write 95 = .ok (.iastore, 1) := by decide +kernel
theorem dX6_write_96 : decode cX6_write 96 = .ok (.iinc 2 1, 3) := by decide +kernel
theorem dX6_write_99 : decode cX6_write 99 = .ok (.iinc 4 1, 3) := by decide +kernel
theorem dX6_write_102 : decode cX6_write 102 = .ok (.goto (-24), 3) := by decide +kernel
theorem dX6_write_105 : decode cX6_write 105 = .ok (.iinc 3 1, 3) := by decide +kernel
theorem dX6_write_108 : decode cX6_write 108 = .ok (.goto (-94), 3) := by decide +kernel
theorem dX6_write_111 : decode cX6_write 111 = .ok (.return_, 1) := by decide +kernel
theorem dX6_take_0 : decode cX6_take 0 = .ok (.iconst 0, 1) := by decide +kernel
theorem dX6_take_1 : decode cX6_take 1 = .ok (.istore_n 2, 1) := by decide +kernel
theorem dX6_take_2 : decode cX6_take 2 = .ok (.aload_n 0, 1) := by decide +kernel
theorem dX6_take_3 : decode cX6_take 3 = .ok (.aload_n 1, 1) := by decide +kernel
theorem dX6_take_4 : decode cX6_take 4 = .ok (.iload_n 2, 1) := by decide +kernel
theorem dX6_take_5 : decode cX6_take 5 = .ok (.iaload, 1) := by decide +kernel
theorem dX6_take_6 : decode cX6_take 6 = .ok (.putfield 7, 3) := by decide +kernel
theorem dX6_take_9 : decode cX6_take 9 = .ok (.iinc 2 1, 3) := by decide +kernel
theorem dX6_take_12 : decode cX6_take 12 = .ok (.iconst 0, 1) := by decide +kernel
theorem dX6_take_13 : decode cX6_take 13 = .ok (.istore_n 3, 1) := by decide +kernel
theorem dX6_take_14 : decode cX6_take 14 = .ok (.iload_n 3, 1) := by decide +kernel
theorem dX6_take_15 : decode cX6_take 15 = .ok (.bipush 14, 2) := by decide +kernel
theorem dX6_take_17 : decode cX6_take 17 = .ok (.if_icmp .ge 94, 3) := by decide +kernel
theorem dX6_take_20 : decode cX6_take 20 = .ok (.aload_n 0, 1) := by decide +kernel
theorem dX6_take_21 : decode cX6_take 21 = .ok (.getfield 13, 3) := by decide +kernel
theorem dX6_take_24 : decode cX6_take 24 = .ok (.iload_n 3, 1) := by decide +kernel
theorem dX6_take_25 : decode cX6_take 25 = .ok (.aload_n 1, 1) := by decide +kernel
theorem dX6_take_26 : decode cX6_take 26 = .ok (.iload_n 2, 1) := by decide +kernel
theorem dX6_take_27 : decode cX6_take 27 = .ok (.iaload, 1) := by decide +kernel
theorem dX6_take_28 : decode cX6_take 28 = .ok (.iastore, 1) := by decide +kernel
theorem dX6_take_29 : decode cX6_take 29 = .ok (.iinc 2 1, 3) := by decide +kernel
theorem dX6_take_32 : decode cX6_take 32 = .ok (.aload_n 0, 1) := by decide +kernel
theorem dX6_take_33 : decode cX6_take 33 = .ok (.getfield 17, 3) := by decide +kernel
theorem dX6_take_36 : decode cX6_take 36 = .ok (.iload_n 3, 1) := by decide +kernel
theorem dX6_take_37 : decode cX6_take 37 = .ok (.aload_n 1, 1) := by decide +kernel
theorem dX6_take_38 : decode cX6_take 38 = .ok (.iload_n 2, 1) := by decide +kernel
theorem dX6_take_39 : decode cX6_take 39 = .ok (.iaload, 1) := by decide +kernel
theorem dX6_take_40 : decode cX6_take 40 = .ok (.iastore, 1) := by decide +kernel
theorem dX6_take_41 : decode cX6_take 41 = .ok (.iinc 2 1, 3) := by decide +kernel
theorem dX6_take_44 : decode cX6_take 44 = .ok (.iconst 0, 1) := by decide +kernel
theorem dX6_take_45 : decode cX6_take 45 = .ok (.istore 4, 2) := by decide +kernel
theorem dX6_take_47 : decode cX6_take 47 = .ok (.iload 4, 2) := by decide +kernel
theorem dX6_take_49 : decode cX6_take 49 = .ok (.bipush 6, 2) := by decide +kernel
theorem dX6_take_51 : decode cX6_take 51 = .ok (.if_icmp .ge 24, 3) := by decide +kernel
theorem dX6_take_54 : decode cX6_take 54 = .ok (.aload_n 0, 1) := by decide +kernel
theorem dX6_take_55 : decode cX6_take 55 = .ok (.getfield 22, 3) := by decide +kernel
theorem dX6_take_58 : decode cX6_take 58 = .ok (.iload_n 3, 1) := by decide +kernel
theorem dX6_take_59 : decode cX6_take 59 = .ok (.aaload, 1) := by decide +kernel
theorem dX6_take_60 : decode cX6_take 60 = .ok (.iload 4, 2) := by decide +kernel
theorem dX6_take_62 : decode cX6_take 62 = .ok (.aload_n 1, 1) := by decide +kernel
theorem dX6_take_63 : decode cX6_take 63 = .ok (.iload_n 2, 1) := by decide +kernel
theorem dX6_take_64 : decode cX6_take 64 = .ok (.iaload, 1) := by decide +kernel
theorem dX6_take_65 : decode cX6_take 65 = .ok (.iastore, 1) := by decide +kernel
theorem dX6_take_66 : decode cX6_take 66 = .ok (.iinc 2 1, 3) := by decide +kernel
theorem dX6_take_69 : decode cX6_take 69 = .ok (.iinc 4 1, 3) := by decide +kernel
theorem dX6_take_72 : decode cX6_take 72 = .ok (.goto (-25), 3) := by decide +kernel
theorem dX6_take_75 : decode cX6_take 75 = .ok (.iconst 0, 1) := by decide +kernel
theorem dX6_take_76 : decode cX6_take 76 = .ok (.istore 4, 2) := by decide +kernel
theorem dX6_take_78 : decode cX6_take 78 = .ok (.iload 4, 2) := by decide +kernel
theorem dX6_take_80 : decode cX6_take 80 = .ok (.iconst 3, 1) := by decide +kernel
theorem dX6_take_81 : decode cX6_take 81 = .ok (.if_icmp .ge 24, 3) := by decide +kernel
theorem dX6_take_84 : decode cX6_take 84 = .ok (.aload_n 0, 1) := by decide +kernel
theorem dX6_take_85 : decode cX6_take 85 = .ok (.getfield 25, 3) := by decide +kernel
theorem dX6_take_88 : decode cX6_take 88 = .ok (.iload_n 3, 1) := by decide +kernel
theorem dX6_take_89 : decode cX6_take 89 = .ok (.aaload, 1) := by decide +kernel
theorem dX6_take_90 : decode cX6_take 90 = .ok (.iload 4, 2) := by decide +kernel
theorem dX6_take_92 : decode cX6_take 92 = .ok (.aload_n 1, 1) := by decide +kernel
theorem dX6_take_93 : decode cX6_take 93 = .ok (.iload_n 2, 1) := by decide +kernel
theorem dX6_take_94 : decode cX6_take 94 = .ok (.iaload, 1) := by decide +kernel
theorem dX6_take_95 : decode cX6_take 95 = .ok (.iastore, 1) := by decide +kernel
theorem dX6_take_96 : decode cX6_take 96 = .ok (.iinc 2 1, 3) := by decide +kernel
theorem dX6_take_99 : decode cX6_take 99 = .ok (.iinc 4 1, 3) := by decide +kernel
theorem dX6_take_102 : decode cX6_take 102 = .ok (.goto (-24), 3) := by decide +kernel
theorem dX6_take_105 : decode cX6_take 105 = .ok (.iinc 3 1, 3) := by decide +kernel
theorem dX6_take_108 : decode cX6_take 108 = .ok (.goto (-94), 3) := by decide +kernel
theorem dX6_take_111 : decode cX6_take 111 = .ok (.return_, 1) := by decide +kernel
theorem dX6_remember_0 : decode cX6_remember 0 = .ok (.aload_n 0, 1) := by decide +kernel
theorem dX6_remember_1 : decode cX6_remember 1 = .ok (.getfield 90, 3) := by decide +kernel
theorem dX6_remember_4 : decode cX6_remember 4 = .ok (.bipush 8, 2) := by decide +kernel
theorem dX6_remember_6 : decode cX6_remember 6 = .ok (.if_icmp .ne 62, 3) := by decide +kernel
theorem dX6_remember_9 : decode cX6_remember 9 = .ok (.aload_n 0, 1) := by decide +kernel
theorem dX6_remember_10 : decode cX6_remember 10 = .ok (.dup, 1) := by decide +kernel
theorem dX6_remember_11 : decode cX6_remember 11 = .ok (.getfield 90, 3) := by decide +kernel
theorem dX6_remember_14 : decode cX6_remember 14 = .ok (.iconst 1, 1) := by decide +kernel
theorem dX6_remember_15 : decode cX6_remember 15 = .ok (.isub, 1) := by decide +kernel
theorem dX6_remember_16 : decode cX6_remember 16 = .ok (.putfield 90, 3) := by decide +kernel
theorem dX6_remember_19 : decode cX6_remember 19 = .ok (.iconst 0, 1) := by decide +kernel
theorem dX6_remember_20 : decode cX6_remember 20 = .ok (.istore_n 1, 1) := by decide +kernel
theorem dX6_remember_21 : decode cX6_remember 21 = .ok (.iload_n 1, 1) := by decide +kernel
theorem dX6_remember_22 : decode cX6_remember 22 = .ok (.aload_n 0, 1) := by decide +kernel
theorem dX6_remember_23 : decode cX6_remember 23 = .ok (.getfield 90, 3) := by decide +kernel
theorem dX6_remember_26 : decode cX6_remember 26 = .ok (.if_icmp .ge 42, 3) := by decide +kernel
theorem dX6_remember_29 : decode cX6_remember 29 = .ok (.iconst 0, 1) := by decide +kernel
theorem dX6_remember_30 : decode cX6_remember 30 = .ok (.istore_n 2, 1) := by decide +kernel
theorem dX6_remember_31 : decode cX6_remember 31 = .ok (.iload_n 2, 1) := by decide +kernel
theorem dX6_remember_32 : decode cX6_remember 32 = .ok (.sipush 160, 3) := by decide +kernel
theorem dX6_remember_35 : decode cX6_remember 35 = .ok (.if_icmp .ge 27, 3) := by decide +kernel
theorem dX6_remember_38 : decode cX6_remember 38 = .ok (.aload_n 0, 1) := by decide +kernel
theorem dX6_remember_39 : decode cX6_remember 39 = .ok (.getfield 28, 3) := by decide +kernel
theorem dX6_remember_42 : decode cX6_remember 42 = .ok (.iload_n 1, 1) := by decide +kernel
theorem dX6_remember_43 : decode cX6_remember 43 = .ok (.aaload, 1) := by decide +kernel
theorem dX6_remember_44 : decode cX6_remember 44 = .ok (.iload_n 2, 1) := by decide +kernel
theorem dX6_remember_45 : decode cX6_remember 45 = .ok (.aload_n 0, 1) := by decide +kernel
theorem dX6_remember_46 : decode cX6_remember 46 = .ok (.getfield 28, 3) := by decide +kernel
theorem dX6_remember_49 : decode cX6_remember 49 = .ok (.iload_n 1, 1) := by decide +kernel
theorem dX6_remember_50 : decode cX6_remember 50 = .ok (.iconst 1, 1) := by decide +kernel
theorem dX6_remember_51 : decode cX6_remember 51 = .ok (.iadd, 1) := by decide +kernel
theorem dX6_remember_52 : decode cX6_remember 52 = .ok (.aaload, 1) := by decide +kernel
theorem dX6_remember_53 : decode cX6_remember 53 = .ok (.iload_n 2, 1) := by decide +kernel
theorem dX6_remember_54 : decode cX6_remember 54 = .ok (.iaload, 1) := by decide +kernel
theorem dX6_remember_55 : decode cX6_remember 55 = .ok (.iastore, 1) := by decide +kernel
theorem dX6_remember_56 : decode cX6_remember 56 = .ok (.iinc 2 1, 3) := by decide +kernel
theorem dX6_remember_59 : decode cX6_remember 59 = .ok (.goto (-28), 3) := by decide +kernel
theorem dX6_remember_62 : decode cX6_remember 62 = .ok (.iinc 1 1, 3) := by decide +kernel
theorem dX6_remember_65 : decode cX6_remember 65 = .ok (.goto (-44), 3) := by decide +kernel
theorem dX6_remember_68 : decode cX6_remember 68 = .ok (.aload_n 0, 1) := by decide +kernel
theorem dX6_remember_69 : decode cX6_remember 69 = .ok (.aload_n 0, 1) := by decide +kernel
theorem dX6_remember_70 : decode cX6_remember 70 = .ok (.getfield 28, 3) := by decide +kernel
theorem dX6_remember_73 : decode cX6_remember 73 = .ok (.aload_n 0, 1) := by decide +kernel
theorem dX6_remember_74 : decode cX6_remember 74 = .ok (.getfield 90, 3) := by decide +kernel
theorem dX6_remember_77 : decode cX6_remember 77 = .ok (.aaload, 1) := by decide +kernel
theorem dX6_remember_78 : decode cX6_remember 78 = .ok (.invokevirtual 93, 3) := by decide +kernel
theorem dX6_remember_81 : decode cX6_remember 81 = .ok (.aload_n 0, 1) := by decide +kernel
theorem dX6_remember_82 : decode cX6_remember 82 = .ok (.dup, 1) := by decide +kernel
theorem dX6_remember_83 : decode cX6_remember 83 = .ok (.getfield 90, 3) := by decide +kernel
theorem dX6_remember_86 : decode cX6_remember 86 = .ok (.iconst 1, 1) := by decide +kernel
theorem dX6_remember_87 : decode cX6_remember 87 = .ok (.iadd, 1) := by decide +kernel
theorem dX6_remember_88 : decode cX6_remember 88 = .ok (.putfield 90, 3) := by decide +kernel
theorem dX6_remember_91 : decode cX6_remember 91 = .ok (.aload_n 0, 1) := by decide +kernel
theorem dX6_remember_92 : decode cX6_remember 92 = .ok (.iconst 0, 1) := by decide +kernel
theorem dX6_remember_93 : decode cX6_remember 93 = .ok (.putfield 97, 3) := by decide +kernel
theorem dX6_remember_96 : decode cX6_remember 96 = .ok (.return_, 1) := by decide +kernel
theorem dX6_reset_0 : decode cX6_reset 0 = .ok (.aload_n 0, 1) := by decide +kernel
theorem dX6_reset_1 : decode cX6_reset 1 = .ok (.iconst 1, 1) := by decide +kernel
theorem dX6_reset_2 : decode cX6_reset 2 = .ok (.iload_n 1, 1) := by decide +kernel
theorem dX6_reset_3 : decode cX6_reset 3 = .ok (.iconst 1, 1) := by decide +kernel
theorem dX6_reset_4 : decode cX6_reset 4 = .ok (.bipush 14, 2) := by decide +kernel
theorem dX6_reset_6 : decode cX6_reset 6 = .ok (.invokestatic 86, 3) := by decide +kernel
theorem dX6_reset_9 : decode cX6_reset 9 = .ok (.ifCond .ne 7, 3) := by decide +kernel
theorem dX6_reset_12 : decode cX6_reset 12 = .ok (.iconst 1, 1) := by decide +kernel
theorem dX6_reset_13 : decode cX6_reset 13 = .ok (.goto 4, 3) := by decide +kernel
theorem dX6_reset_16 : decode cX6_reset 16 = .ok (.iconst 0, 1) := by decide +kernel
theorem dX6_reset_17 : decode cX6_reset 17 = .ok (.invokevirtual 100, 3) := by decide +kernel
theorem dX6_reset_20 : decode cX6_reset 20 = .ok (.ifCond .eq 5, 3) := by decide +kernel
theorem dX6_reset_23 : decode cX6_reset 23 = .ok (.iconst 0, 1) := by decide +kernel
theorem dX6_reset_24 : decode cX6_reset 24 = .ok (.ireturn, 1) := by decide +kernel
theorem dX6_reset_25 : decode cX6_reset 25 = .ok (.aload_n 0, 1) := by decide +kernel
theorem dX6_reset_26 : decode cX6_reset 26 = .ok (.getfield 7, 3) := by decide +kernel
theorem dX6_reset_29 : decode cX6_reset 29 = .ok (.istore_n 2, 1) := by decide +kernel
theorem dX6_reset_30 : decode cX6_reset 30 = .ok (.aload_n 0, 1) := by decide +kernel
theorem dX6_reset_31 : decode cX6_reset 31 = .ok (.iload_n 1, 1) := by decide +kernel
theorem dX6_reset_32 : decode cX6_reset 32 = .ok (.putfield 7, 3) := by decide +kernel
theorem dX6_reset_35 : decode cX6_reset 35 = .ok (.iconst 0, 1) := by decide +kernel
theorem dX6_reset_36 : decode cX6_reset 36 = .ok (.istore_n 3, 1) := by decide +kernel
theorem dX6_reset_37 : decode cX6_reset 37 = .ok (.iload_n 3, 1) := by decide +kernel
theorem dX6_reset_38 : decode cX6_reset 38 = .ok (.bipush 14, 2) := by decide +kernel
theorem dX6_reset_40 : decode cX6_reset 40 = .ok (.if_icmp .ge 23, 3) := by decide +kernel
theorem dX6_reset_43 : decode cX6_reset 43 = .ok (.aload_n 0, 1) := by decide +kernel
theorem dX6_reset_44 : decode cX6_reset 44 = .ok (.getfield 13, 3) := by decide +kernel
theorem dX6_reset_47 : decode cX6_reset 47 = .ok (.iload_n 3, 1) := by decide +kernel
theorem dX6_reset_48 : decode cX6_reset 48 = .ok (.iconst 0, 1) := by decide +kernel
theorem dX6_reset_49 : decode cX6_reset 49 = .ok (.iastore, 1) := by decide +kernel
theorem dX6_reset_50 : decode cX6_reset 50 = .ok (.aload_n 0, 1) := by decide +kernel
theorem dX6_reset_51 : decode cX6_reset 51 = .ok (.getfield 17, 3) := by decide +kernel
theorem dX6_reset_54 : decode cX6_reset 54 = .ok (.iload_n 3, 1) := by decide +kernel
theorem dX6_reset_55 : decode cX6_reset 55 = .ok (.iconst 0, 1) := by decide +kernel
theorem dX6_reset_56 : decode cX6_reset 56 = .ok (.iastore, 1) := by decide +kernel
theorem dX6_reset_57 : decode cX6_reset 57 = .ok (.iinc 3 1, 3) := by decide +kernel
theorem dX6_reset_60 : decode cX6_reset 60 = .ok (.goto (-23), 3) := by decide +kernel
theorem dX6_reset_63 : decode cX6_reset 63 = .ok (.aload_n 0, 1) := by decide +kernel
theorem dX6_reset_64 : decode cX6_reset 64 = .ok (.iconst 0, 1) := by decide +kernel
theorem dX6_reset_65 : decode cX6_reset 65 = .ok (.putfield 90, 3) := by decide +kernel
theorem dX6_reset_68 : decode cX6_reset 68 = .ok (.aload_n 0, 1) := by decide +kernel
theorem dX6_reset_69 : decode cX6_reset 69 = .ok (.iconst 0, 1) := by decide +kernel
theorem dX6_reset_70 : decode cX6_reset 70 = .ok (.putfield 97, 3) := by decide +kernel
theorem dX6_reset_73 : decode cX6_reset 73 = .ok (.iload_n 2, 1) := by decide +kernel
theorem dX6_reset_74 : decode cX6_reset 74 = .ok (.ireturn, 1) := by decide +kernel
theorem dX6_blockCount_0 : decode cX6_blockCount 0 = .ok (.aload_n 0, 1) := by decide +kernel
theorem dX6_blockCount_1 : decode cX6_blockCount 1 = .ok (.iconst 0, 1) := by decide +kernel
theorem dX6_blockCount_2 : decode cX6_blockCount 2 = .ok (.putfield 83, 3) := by decide +kernel
theorem dX6_blockCount_5 : decode cX6_blockCount 5 = .ok (.aload_n 0, 1) := by decide +kernel
theorem dX6_blockCount_6 : decode cX6_blockCount 6 = .ok (.getfield 7, 3) := by decide +kernel
theorem dX6_blockCount_9 : decode cX6_blockCount 9 = .ok (.ireturn, 1) := by decide +kernel
theorem dX6_append_0 : decode cX6_append 0 = .ok (.aload_n 0, 1) := by decide +kernel
theorem dX6_append_1 : decode cX6_append 1 = .ok (.iconst 1, 1) := by decide +kernel
theorem dX6_append_2 : decode cX6_append 2 = .ok (.iload_n 1, 1) := by decide +kernel
theorem dX6_append_3 : decode cX6_append 3 = .ok (.bipush 32, 2) := by decide +kernel
theorem dX6_append_5 : decode cX6_append 5 = .ok (.bipush 126, 2) := by decide +kernel
theorem dX6_append_7 : decode cX6_append 7 = .ok (.invokestatic 86, 3) := by decide +kernel
theorem dX6_append_10 : decode cX6_append 10 = .ok (.ifCond .ne 7, 3) := by decide +kernel
theorem dX6_append_13 : decode cX6_append 13 = .ok (.iconst 1, 1) := by decide +kernel
theorem dX6_append_14 : decode cX6_append 14 = .ok (.goto 4, 3) := by decide +kernel
theorem dX6_append_17 : decode cX6_append 17 = .ok (.iconst 0, 1) := by decide +kernel
theorem dX6_append_18 : decode cX6_append 18 = .ok (.invokevirtual 100, 3) := by decide +kernel
theorem dX6_append_21 : decode cX6_append 21 = .ok (.ifCond .ne 25, 3) := by decide +kernel
theorem dX6_append_24 : decode cX6_append 24 = .ok (.aload_n 0, 1) := by decide +kernel
theorem dX6_append_25 : decode cX6_append 25 = .ok (.iconst 2, 1) := by decide +kernel
theorem dX6_append_26 : decode cX6_append 26 = .ok (.aload_n 0, 1) := by decide +kernel
theorem dX6_append_27 : decode cX6_append 27 = .ok (.getfield 104, 3) := by decide +kernel
theorem dX6_append_30 : decode cX6_append 30 = .ok (.bipush 30, 2) := by decide +kernel
theorem dX6_append_32 : decode cX6_append 32 = .ok (.if_icmp .ne 7, 3) := by decide +kernel
theorem dX6_append_35 : decode cX6_append 35 = .ok (.iconst 1, 1) := by decide +kernel
theorem dX6_append_36 : decode cX6_append 36 = .ok (.goto 4, 3) := by decide +kernel
theorem dX6_append_39 : decode cX6_append 39 = .ok (.iconst 0, 1) := by decide +kernel
theorem dX6_append_40 : decode cX6_append 40 = .ok (.invokevirtual 100, 3) := by decide +kernel
theorem dX6_append_43 : decode cX6_append 43 = .ok (.ifCond .eq 5, 3) := by decide +kernel
theorem dX6_append_46 : decode cX6_append 46 = .ok (.iconst 0, 1) := by decide +kernel
theorem dX6_append_47 : decode cX6_append 47 = .ok (.ireturn, 1) := by decide +kernel
theorem dX6_append_48 : decode cX6_append 48 = .ok (.aload_n 0, 1) := by decide +kernel
theorem dX6_append_49 : decode cX6_append 49 = .ok (.getfield 34, 3) := by decide +kernel
theorem dX6_append_52 : decode cX6_append 52 = .ok (.aload_n 0, 1) := by decide +kernel
theorem dX6_append_53 : decode cX6_append 53 = .ok (.getfield 104, 3) := by decide +kernel
theorem dX6_append_56 : decode cX6_append 56 = .ok (.iload_n 1, 1) := by decide +kernel
theorem dX6_append_57 : decode cX6_append 57 = .ok (.castore, 1) := by decide +kernel
theorem dX6_append_58 : decode cX6_append 58 = .ok (.aload_n 0, 1) := by decide +kernel
theorem dX6_append_59 : decode cX6_append 59 = .ok (.dup, 1) := by decide +kernel
theorem dX6_append_60 : decode cX6_append 60 = .ok (.getfield 104, 3) := by decide +kernel
theorem dX6_append_63 : decode cX6_append 63 = .ok (.iconst 1, 1) := by decide +kernel
theorem dX6_append_64 : decode cX6_append 64 = .ok (.iadd, 1) := by decide +kernel
theorem dX6_append_65 : decode cX6_append 65 = .ok (.putfield 104, 3) := by decide +kernel
theorem dX6_append_68 : decode cX6_append 68 = .ok (.aload_n 0, 1) := by decide +kernel
theorem dX6_append_69 : decode cX6_append 69 = .ok (.getfield 104, 3) := by decide +kernel
theorem dX6_append_72 : decode cX6_append 72 = .ok (.ireturn, 1) := by decide +kernel
theorem dX6_sees_0 : decode cX6_sees 0 = .ok (.aload_n 0, 1) := by decide +kernel
theorem dX6_sees_1 : decode cX6_sees 1 = .ok (.getfield 107, 3) := by decide +kernel
theorem dX6_sees_4 : decode cX6_sees 4 = .ok (.ifCond .ne 31, 3) := by decide +kernel
theorem dX6_sees_7 : decode cX6_sees 7 = .ok (.aload_n 0, 1) := by decide +kernel
theorem dX6_sees_8 : decode cX6_sees 8 = .ok (.getfield 111, 3) := by decide +kernel
theorem dX6_sees_11 : decode cX6_sees 11 = .ok (.aload_n 0, 1) := by decide +kernel
theorem dX6_sees_12 : decode cX6_sees 12 = .ok (.getfield 104, 3) := by decide +kernel
theorem dX6_sees_15 : decode cX6_sees 15 = .ok (.if_icmp .ge 20, 3) := by decide +kernel
theorem dX6_sees_18 : decode cX6_sees 18 = .ok (.aload_n 0, 1) := by decide +kernel
theorem dX6_sees_19 : decode cX6_sees 19 = .ok (.getfield 34, 3) := by decide +kernel
theorem dX6_sees_22 : decode cX6_sees 22 = .ok (.aload_n 0, 1) := by decide +kernel
theorem dX6_sees_23 : decode cX6_sees 23 = .ok (.getfield 111, 3) := by decide +kernel
theorem dX6_sees_26 : decode cX6_sees 26 = .ok (.caload, 1) := by decide +kernel
theorem dX6_sees_27 : decode cX6_sees 27 = .ok (.iload_n 1, 1) := by decide +kernel
theorem dX6_sees_28 : decode cX6_sees 28 = .ok (.if_icmp .ne 7, 3) := by decide +kernel
theorem dX6_sees_31 : decode cX6_sees 31 = .ok (.iconst 1, 1) := by decide +kernel
theorem dX6_sees_32 : decode cX6_sees 32 = .ok (.goto 4, 3) := by decide +kernel
theorem dX6_sees_35 : decode cX6_sees 35 = .ok (.iconst 0, 1) := by decide +kernel
theorem dX6_sees_36 : decode cX6_sees 36 = .ok (.ireturn, 1) := by decide +kernel
theorem dX6_pass_0 : decode cX6_pass 0 = .ok (.aload_n 0, 1) := by decide +kernel
theorem dX6_pass_1 : decode cX6_pass 1 = .ok (.dup, 1) := by decide +kernel
theorem dX6_pass_2 : decode cX6_pass 2 = .ok (.getfield 107, 3) := by decide +kernel
theorem dX6_pass_5 : decode cX6_pass 5 = .ok (.aload_n 0, 1) := by decide +kernel
theorem dX6_pass_6 : decode cX6_pass 6 = .ok (.getfield 111, 3) := by decide +kernel
theorem dX6_pass_9 : decode cX6_pass 9 = .ok (.aload_n 0, 1) := by decide +kernel
theorem dX6_pass_10 : decode cX6_pass 10 = .ok (.getfield 104, 3) := by decide +kernel
theorem dX6_pass_13 : decode cX6_pass 13 = .ok (.if_icmp .ge 29, 3) := by decide +kernel
theorem dX6_pass_16 : decode cX6_pass 16 = .ok (.aload_n 0, 1) := by decide +kernel
theorem dX6_pass_17 : decode cX6_pass 17 = .ok (.getfield 34, 3) := by decide +kernel
theorem dX6_pass_20 : decode cX6_pass 20 = .ok (.aload_n 0, 1) := by decide +kernel
theorem dX6_pass_21 : decode cX6_pass 21 = .ok (.getfield 111, 3) := by decide +kernel
theorem dX6_pass_24 : decode cX6_pass 24 = .ok (.caload, 1) := by decide +kernel
theorem dX6_pass_25 : decode cX6_pass 25 = .ok (.iload_n 1, 1) := by decide +kernel
theorem dX6_pass_26 : decode cX6_pass 26 = .ok (.if_icmp .lt 16, 3) := by decide +kernel
theorem dX6_pass_29 : decode cX6_pass 29 = .ok (.aload_n 0, 1) := by decide +kernel
theorem dX6_pass_30 : decode cX6_pass 30 = .ok (.getfield 34, 3) := by decide +kernel
theorem dX6_pass_33 : decode cX6_pass 33 = .ok (.aload_n 0, 1) := by decide +kernel
theorem dX6_pass_34 : decode cX6_pass 34 = .ok (.getfield 111, 3) := by decide +kernel
theorem dX6_pass_37 : decode cX6_pass 37 = .ok (.caload, 1) := by decide +kernel
theorem dX6_pass_38 : decode cX6_pass 38 = .ok (.iload_n 2, 1) := by decide +kernel
theorem dX6_pass_39 : decode cX6_pass 39 = .ok (.if_icmp .le 7, 3) := by decide +kernel
theorem dX6_pass_42 : decode cX6_pass 42 = .ok (.iconst 1, 1) := by decide +kernel
theorem dX6_pass_43 : decode cX6_pass 43 = .ok (.goto 4, 3) := by decide +kernel
theorem dX6_pass_46 : decode cX6_pass 46 = .ok (.iconst 0, 1) := by decide +kernel
theorem dX6_pass_47 : decode cX6_pass 47 = .ok (.ior, 1) := by decide +kernel
theorem dX6_pass_48 : decode cX6_pass 48 = .ok (.putfield 107, 3) := by decide +kernel
theorem dX6_pass_51 : decode cX6_pass 51 = .ok (.aload_n 0, 1) := by decide +kernel
theorem dX6_pass_52 : decode cX6_pass 52 = .ok (.getfield 107, 3) := by decide +kernel
theorem dX6_pass_55 : decode cX6_pass 55 = .ok (.ifCond .eq 7, 3) := by decide +kernel
theorem dX6_pass_58 : decode cX6_pass 58 = .ok (.iconst 0, 1) := by decide +kernel
theorem dX6_pass_59 : decode cX6_pass 59 = .ok (.goto 14, 3) := by decide +kernel
theorem dX6_pass_62 : decode cX6_pass 62 = .ok (.aload_n 0, 1) := by decide +kernel
theorem dX6_pass_63 : decode cX6_pass 63 = .ok (.getfield 34, 3) := by decide +kernel
theorem dX6_pass_66 : decode cX6_pass 66 = .ok (.aload_n 0, 1) := by decide +kernel
theorem dX6_pass_67 : decode cX6_pass 67 = .ok (.getfield 111, 3) := by decide +kernel
theorem dX6_pass_70 : decode cX6_pass 70 = .ok (.caload, 1) := by decide +kernel
theorem dX6_pass_71 : decode cX6_pass 71 = .ok (.iload_n 1, 1) := by decide +kernel
theorem dX6_pass_72 : decode cX6_pass 72 = .ok (.isub, 1) := by decide +kernel
theorem dX6_pass_73 : decode cX6_pass 73 = .ok (.istore_n 3, 1) := by decide +kernel
theorem dX6_pass_74 : decode cX6_pass 74 = .ok (.aload_n 0, 1) := by decide +kernel
theorem dX6_pass_75 : decode cX6_pass 75 = .ok (.dup, 1) := by decide +kernel
theorem dX6_pass_76 : decode cX6_pass 76 = .ok (.getfield 111, 3) := by decide +kernel
theorem dX6_pass_79 : decode cX6_pass 79 = .ok (.aload_n 0, 1) := by decide +kernel
theorem dX6_pass_80 : decode cX6_pass 80 = .ok (.getfield 107, 3) := by decide +kernel
theorem dX6_pass_83 : decode cX6_pass 83 = .ok (.ifCond .eq 7, 3) := by decide +kernel
theorem dX6_pass_86 : decode cX6_pass 86 = .ok (.iconst 0, 1) := by decide +kernel
theorem dX6_pass_87 : decode cX6_pass 87 = .ok (.goto 4, 3) := by decide +kernel
theorem dX6_pass_90 : decode cX6_pass 90 = .ok (.iconst 1, 1) := by decide +kernel
theorem dX6_pass_91 : decode cX6_pass 91 = .ok (.iadd, 1) := by decide +kernel
theorem dX6_pass_92 : decode cX6_pass 92 = .ok (.putfield 111, 3) := by decide +kernel
theorem dX6_pass_95 : decode cX6_pass 95 = .ok (.iload_n 3, 1) := by decide +kernel
theorem dX6_pass_96 : decode cX6_pass 96 = .ok (.ireturn, 1) := by decide +kernel
theorem dX6_isNewTarget_0 : decode cX6_isNewTarget 0 = .ok (.iload_n 1, 1) := by decide +kernel
theorem dX6_isNewTarget_1 : decode cX6_isNewTarget 1 = .ok (.ifCond .le 15, 3) := by decide +kernel
theorem dX6_isNewTarget_4 : decode cX6_isNewTarget 4 = .ok (.iload_n 1, 1) := by decide +kernel
theorem dX6_isNewTarget_5 : decode cX6_isNewTarget 5 = .ok (.aload_n 0, 1) := by decide +kernel
theorem dX6_isNewTarget_6 : decode cX6_isNewTarget 6 = .ok (.getfield 7, 3) := by decide +kernel
theorem dX6_isNewTarget_9 : decode cX6_isNewTarget 9 = .ok (.if_icmp .ge 7, 3) := by decide +kernel
theorem dX6_isNewTarget_12 : decode cX6_isNewTarget 12 = .ok (.iconst 1, 1) := by decide +kernel
theorem dX6_isNewTarget_13 : decode cX6_isNewTarget 13 = .ok (.goto 4, 3) := by decide +kernel
theorem dX6_isNewTarget_16 : decode cX6_isNewTarget 16 = .ok (.iconst 0, 1) := by decide +kernel
theorem dX6_isNewTarget_17 : decode cX6_isNewTarget 17 = .ok (.istore_n 2, 1) := by decide +kernel
theorem dX6_isNewTarget_18 : decode cX6_isNewTarget 18 = .ok (.iconst 0, 1) := by decide +kernel
theorem dX6_isNewTarget_19 : decode cX6_isNewTarget 19 = .ok (.istore_n 3, 1) := by decide +kernel
theorem dX6_isNewTarget_20 : decode cX6_isNewTarget 20 = .ok (.iload_n 3, 1) := by decide +kernel
theorem dX6_isNewTarget_21 : decode cX6_isNewTarget 21 = .ok (.aload_n 0, 1) := by decide +kernel
theorem dX6_isNewTarget_22 : decode cX6_isNewTarget 22 = .ok (.getfield 114, 3) := by decide +kernel
theorem dX6_isNewTarget_25 : decode cX6_isNewTarget 25 = .ok (.if_icmp .ge 27, 3) := by decide +kernel
theorem dX6_isNewTarget_28 : decode cX6_isNewTarget 28 = .ok (.iload_n 2, 1) := by decide +kernel
theorem dX6_isNewTarget_29 : decode cX6_isNewTarget 29 = .ok (.aload_n 0, 1) := by decide +kernel
theorem dX6_isNewTarget_30 : decode cX6_isNewTarget 30 = .ok (.getfield 44, 3) := by decide +kernel
theorem dX6_isNewTarget_33 : decode cX6_isNewTarget 33 = .ok (.iload_n 3, 1) := by decide +kernel
theorem dX6_isNewTarget_34 : decode cX6_isNewTarget 34 = .ok (.iaload, 1) := by decide +kernel
theorem dX6_isNewTarget_35 : decode cX6_isNewTarget 35 = .ok (.iload_n 1, 1) := by decide +kernel
theorem dX6_isNewTarget_36 : decode cX6_isNewTarget 36 = .ok (.if_icmp .eq 7, 3) := by decide +kernel
theorem dX6_isNewTarget_39 : decode cX6_isNewTarget 39 = .ok (.iconst 1, 1) := by decide +kernel
theorem dX6_isNewTarget_40 : decode cX6_isNewTarget 40 = .ok (.goto 4, 3) := by decide +kernel
theorem dX6_isNewTarget_43 : decode cX6_isNewTarget 43 = .ok (.iconst 0, 1) := by decide +kernel
theorem dX6_isNewTarget_44 : decode cX6_isNewTarget 44 = .ok (.iand, 1) := by decide +kernel
theorem dX6_isNewTarget_45 : decode cX6_isNewTarget 45 = .ok (.istore_n 2, 1) := by decide +kernel
theorem dX6_isNewTarget_46 : decode cX6_isNewTarget 46 = .ok (.iinc 3 1, 3) := by decide +kernel
theorem dX6_isNewTarget_49 : decode cX6_isNewTarget 49 = .ok (.goto (-29), 3) := by decide +kernel
theorem dX6_isNewTarget_52 : decode cX6_isNewTarget 52 = .ok (.iload_n 2, 1) := by decide +kernel
theorem dX6_isNewTarget_53 : decode cX6_isNewTarget 53 = .ok (.ireturn, 1) := by decide +kernel
theorem dX6_readTargets_0 : decode cX6_readTargets 0 = .ok (.iconst 1, 1) := by decide +kernel
theorem dX6_readTargets_1 : decode cX6_readTargets 1 = .ok (.istore_n 1, 1) := by decide +kernel
theorem dX6_readTargets_2 : decode cX6_readTargets 2 = .ok (.iload_n 1, 1) := by decide +kernel
theorem dX6_readTargets_3 : decode cX6_readTargets 3 = .ok (.ifCond .eq 125, 3) := by decide +kernel
theorem dX6_readTargets_6 : decode cX6_readTargets 6 = .ok (.aload_n 0, 1) := by decide +kernel
theorem dX6_readTargets_7 : decode cX6_readTargets 7 = .ok (.getfield 111, 3) := by decide +kernel
theorem dX6_readTargets_10 : decode cX6_readTargets 10 = .ok (.aload_n 0, 1) := by decide +kernel
theorem dX6_readTargets_11 : decode cX6_readTargets 11 = .ok (.getfield 104, 3) := by decide +kernel
theorem dX6_readTargets_14 : decode cX6_readTargets 14 = .ok (.if_icmp .ge 18, 3) := by decide +kernel
theorem dX6_readTargets_17 : decode cX6_readTargets 17 = .ok (.aload_n 0, 1) := by decide +kernel
theorem dX6_readTargets_18 : decode cX6_readTargets 18 = .ok (.getfield 34, 3) := by decide +kernel
theorem dX6_readTargets_21 : decode cX6_readTargets 21 = .ok (.aload_n 0, 1) := by decide +kernel
theorem dX6_readTargets_22 : decode cX6_readTargets 22 = .ok (.getfield 111, 3) := by decide +kernel
theorem dX6_readTargets_25 : decode cX6_readTargets 25 = .ok (.caload, 1) := by decide +kernel
theorem dX6_readTargets_26 : decode cX6_readTargets 26 = .ok (.bipush 97, 2) := by decide +kernel
theorem dX6_readTargets_28 : decode cX6_readTargets 28 = .ok (.isub, 1) := by decide +kernel
theorem dX6_readTargets_29 : decode cX6_readTargets 29 = .ok (.goto 4, 3) := by decide +kernel
theorem dX6_readTargets_32 : decode cX6_readTargets 32 = .ok (.iconst (-1), 1) := by decide +kernel
theorem dX6_readTargets_33 : decode cX6_readTargets 33 = .ok (.istore_n 2, 1) := by decide +kernel
theorem dX6_readTargets_34 : decode cX6_readTargets 34 = .ok (.aload_n 0, 1) := by decide +kernel
theorem dX6_readTargets_35 : decode cX6_readTargets 35 = .ok (.dup, 1) := by decide +kernel
theorem dX6_readTargets_36 : decode cX6_readTargets 36 = .ok (.getfield 107, 3) := by decide +kernel
theorem dX6_readTargets_39 : decode cX6_readTargets 39 = .ok (.aload_n 0, 1) := by decide +kernel
theorem dX6_readTargets_40 : decode cX6_readTargets 40 = .ok (.getfield 114, 3) := by decide +kernel
theorem dX6_readTargets_43 : decode cX6_readTargets 43 = .ok (.iconst 3, 1) := by decide +kernel
theorem dX6_readTargets_44 : decode cX6_readTargets 44 = .ok (.if_icmp .eq 11, 3) := by decide +kernel
theorem dX6_readTargets_47 : decode cX6_readTargets 47 = .ok (.aload_n 0, 1) := by decide +kernel
theorem dX6_readTargets_48 : decode cX6_readTargets 48 = .ok (.iload_n 2, 1) := by decide +kernel
theorem dX6_readTargets_49 : decode cX6_readTargets 49 = .ok (.invokevirtual 117, 3) := by decide +kernel
theorem dX6_readTargets_52 : decode cX6_readTargets 52 = .ok (.ifCond .ne 7, 3) := by decide +kernel
theorem dX6_readTargets_55 : decode cX6_readTargets 55 = .ok (.iconst 1, 1) := by decide +kernel
theorem dX6_readTargets_56 : decode cX6_readTargets 56 = .ok (.goto 4, 3) := by decide +kernel
theorem dX6_readTargets_59 : decode cX6_readTargets 59 = .ok (.iconst 0, 1) := by decide +kernel
theorem dX6_readTargets_60 : decode cX6_readTargets 60 = .ok (.ior, 1) := by decide +kernel
theorem dX6_readTargets_61 : decode cX6_readTargets 61 = .ok (.putfield 107, 3) := by decide +kernel
theorem dX6_readTargets_64 : decode cX6_readTargets 64 = .ok (.aload_n 0, 1) := by decide +kernel
theorem dX6_readTargets_65 : decode cX6_readTargets 65 = .ok (.getfield 107, 3) := by decide +kernel
theorem dX6_readTargets_68 : decode cX6_readTargets 68 = .ok (.ifCond .ne 33, 3) := by decide +kernel
theorem dX6_readTargets_71 : decode cX6_readTargets 71 = .ok (.aload_n 0, 1) := by decide +kernel
theorem dX6_readTargets_72 : decode cX6_readTargets 72 = .ok (.getfield 44, 3) := by decide +kernel
theorem dX6_readTargets_75 : decode cX6_readTargets 75 = .ok (.aload_n 0, 1) := by decide +kernel
theorem dX6_readTargets_76 : decode cX6_readTargets 76 = .ok (.getfield 114, 3) := by decide +kernel
theorem dX6_readTargets_79 : decode cX6_readTargets 79 = .ok (.iload_n 2, 1) := by decide +kernel
theorem dX6_readTargets_80 : decode cX6_readTargets 80 = .ok (.iastore, 1) := by decide +kernel
theorem dX6_readTargets_81 : decode cX6_readTargets 81 = .ok (.aload_n 0, 1) := by decide +kernel
theorem dX6_readTargets_82 : decode cX6_readTargets 82 = .ok (.dup, 1) := by decide +kernel
theorem dX6_readTargets_83 : decode cX6_readTargets 83 = .ok (.getfield 114, 3) := by decide +kernel
theorem dX6_readTargets_86 : decode cX6_readTargets 86 = .ok (.iconst 1, 1) := by decide +kernel
theorem dX6_readTargets_87 : decode cX6_readTargets 87 = .ok (.iadd, 1) := by decide +kernel
theorem dX6_readTargets_88 : decode cX6_readTargets 88 = .ok (.putfield 114, 3) := by decide +kernel
theorem dX6_readTargets_91 : decode cX6_readTargets 91 = .ok (.aload_n 0, 1) := by decide +kernel
theorem dX6_readTargets_92 : decode cX6_readTargets 92 = .ok (.dup, 1) := by decide +kernel
theorem dX6_readTargets_93 : decode cX6_readTargets 93 = .ok (.getfield 111, 3) := by decide +kernel
theorem dX6_readTargets_96 : decode cX6_readTargets 96 = .ok (.iconst 1, 1) := by decide +kernel
theorem dX6_readTargets_97 : decode cX6_readTargets 97 = .ok (.iadd, 1) := by decide +kernel
theorem dX6_readTargets_98 : decode cX6_readTargets 98 = .ok (.putfield 111, 3) := by decide +kernel
theorem dX6_readTargets_101 : decode cX6_readTargets 101 = .ok (.aload_n 0, 1) := by decide +kernel
theorem dX6_readTargets_102 : decode cX6_readTargets 102 = .ok (.getfield 107, 3) := by decide +kernel
theorem dX6_readTargets_105 : decode cX6_readTargets 105 = .ok (.ifCond .ne 18, 3) := by decide +kernel
theorem dX6_readTargets_108 : decode cX6_readTargets 108 = .ok (.aload_n 0, 1) := by decide +kernel
theorem dX6_readTargets_109 : decode cX6_readTargets 109 = .ok (.getfield 111, 3) := by decide +kernel
theorem dX6_readTargets_112 : decode cX6_readTargets 112 = .ok (.aload_n 0, 1) := by decide +kernel
theorem dX6_readTargets_113 : decode cX6_readTargets 113 = .ok (.getfield 104, 3) := by decide +kernel
theorem dX6_readTargets_116 : decode cX6_readTargets 116 = .ok (.if_icmp .ge 7, 3) := by decide +kernel
theorem dX6_readTargets_119 : decode cX6_readTargets 119 = .ok (.iconst 1, 1) := by decide +kernel
theorem dX6_readTargets_120 : decode cX6_readTargets 120 = .ok (.goto 4, 3) := by decide +kernel
theorem dX6_readTargets_123 : decode cX6_readTargets 123 = .ok (.iconst 0, 1) := by decide +kernel
theorem dX6_readTargets_124 : decode cX6_readTargets 124 = .ok (.istore_n 1, 1) := by decide +kernel
theorem dX6_readTargets_125 : decode cX6_readTargets 125 = .ok (.goto (-123), 3) := by decide +kernel
theorem dX6_readTargets_128 : decode cX6_readTargets 128 = .ok (.return_, 1) := by decide +kernel
theorem dX6_readLine_0 : decode cX6_readLine 0 = .ok (.aload_n 0, 1) := by decide +kernel
theorem dX6_readLine_1 : decode cX6_readLine 1 = .ok (.iconst 0, 1) := by decide +kernel
theorem dX6_readLine_2 : decode cX6_readLine 2 = .ok (.putfield 111, 3) := by decide +kernel
theorem dX6_readLine_5 : decode cX6_readLine 5 = .ok (.aload_n 0, 1) := by decide +kernel
theorem dX6_readLine_6 : decode cX6_readLine 6 = .ok (.iconst 0, 1) := by decide +kernel
theorem dX6_readLine_7 : decode cX6_readLine 7 = .ok (.putfield 107, 3) := by decide +kernel
theorem dX6_readLine_10 : decode cX6_readLine 10 = .ok (.aload_n 0, 1) := by decide +kernel
theorem dX6_readLine_11 : decode cX6_readLine 11 = .ok (.iconst 0, 1) := by decide +kernel
theorem dX6_readLine_12 : decode cX6_readLine 12 = .ok (.putfield 121, 3) := by decide +kernel
theorem dX6_readLine_15 : decode cX6_readLine 15 = .ok (.aload_n 0, 1) := by decide +kernel
theorem dX6_readLine_16 : decode cX6_readLine 16 = .ok (.iconst 0, 1) := by decide +kernel
theorem dX6_readLine_17 : decode cX6_readLine 17 = .ok (.putfield 114, 3) := by decide +kernel
theorem dX6_readLine_20 : decode cX6_readLine 20 = .ok (.aload_n 0, 1) := by decide +kernel
theorem dX6_readLine_21 : decode cX6_readLine 21 = .ok (.aload_n 0, 1) := by decide +kernel
theorem dX6_readLine_22 : decode cX6_readLine 22 = .ok (.bipush 97, 2) := by decide +kernel
theorem dX6_readLine_24 : decode cX6_readLine 24 = .ok (.bipush 97, 2) := by decide +kernel
theorem dX6_readLine_26 : decode cX6_readLine 26 = .ok (.aload_n 0, 1) := by decide +kernel
theorem dX6_readLine_27 : decode cX6_readLine 27 = .ok (.getfield 7, 3) := by decide +kernel
theorem dX6_readLine_30 : decode cX6_readLine 30 = .ok (.iadd, 1) := by decide +kernel
theorem dX6_readLine_31 : decode cX6_readLine 31 = .ok (.iconst 1, 1) := by decide +kernel
theorem dX6_readLine_32 : decode cX6_readLine 32 = .ok (.isub, 1) := by decide +kernel
theorem dX6_readLine_33 : decode cX6_readLine 33 = .ok (.i2c, 1) := by decide +kernel
theorem dX6_readLine_34 : decode cX6_readLine 34 = .ok (.invokevirtual 124, 3) := by decide +kernel
theorem dX6_readLine_37 : decode cX6_readLine 37 = .ok (.putfield 128, 3) := by decide +kernel
theorem dX6_readLine_40 : decode cX6_readLine 40 = .ok (.aload_n 0, 1) := by decide +kernel
theorem dX6_readLine_41 : decode cX6_readLine 41 = .ok (.bipush 58, 2) := by decide +kernel
theorem dX6_readLine_43 : decode cX6_readLine 43 = .ok (.bipush 58, 2) := by decide +kernel
theorem dX6_readLine_45 : decode cX6_readLine 45 = .ok (.invokevirtual 124, 3) := by decide +kernel
theorem dX6_readLine_48 : decode cX6_readLine 48 = .ok (.pop, 1) := by decide +kernel
theorem dX6_readLine_49 : decode cX6_readLine 49 = .ok (.aload_n 0, 1) := by decide +kernel
theorem dX6_readLine_50 : decode cX6_readLine 50 = .ok (.getfield 121, 3) := by decide +kernel
theorem dX6_readLine_53 : decode cX6_readLine 53 = .ok (.bipush 6, 2) := by decide +kernel
theorem dX6_readLine_55 : decode cX6_readLine 55 = .ok (.if_icmp .ge 84, 3) := by decide +kernel
theorem dX6_readLine_58 : decode cX6_readLine 58 = .ok (.aload_n 0, 1) := by decide +kernel
theorem dX6_readLine_59 : decode cX6_readLine 59 = .ok (.bipush 100, 2) := by decide +kernel
theorem dX6_readLine_61 : decode cX6_readLine 61 = .ok (.invokevirtual 131, 3) := by decide +kernel
theorem dX6_readLine_64 : decode cX6_readLine 64 = .ok (.ifCond .ne 12, 3) := by decide +kernel
theorem dX6_readLine_67 : decode cX6_readLine 67 = .ok (.aload_n 0, 1) := by decide +kernel
theorem dX6_readLine_68 : decode cX6_readLine 68 = .ok (.bipush 117, 2) := by decide +kernel
theorem dX6_readLine_70 : decode cX6_readLine 70 = .ok (.invokevirtual 131, 3) := by decide +kernel
theorem dX6_readLine_73 : decode cX6_readLine 73 = .ok (.ifCond .eq 66, 3) := by decide +kernel
theorem dX6_readLine_76 : decode cX6_readLine 76 = .ok (.aload_n 0, 1) := by decide +kernel
theorem dX6_readLine_77 : decode cX6_readLine 77 = .ok (.getfield 34, 3) := by decide +kernel
theorem dX6_readLine_80 : decode cX6_readLine 80 = .ok (.aload_n 0, 1) := by decide +kernel
theorem dX6_readLine_81 : decode cX6_readLine 81 = .ok (.getfield 111, 3) := by decide +kernel
theorem dX6_readLine_84 : decode cX6_readLine 84 = .ok (.caload, 1) := by decide +kernel
theorem dX6_readLine_85 : decode cX6_readLine 85 = .ok (.bipush 100, 2) := by decide +kernel
theorem dX6_readLine_87 : decode cX6_readLine 87 = .ok (.if_icmp .ne 7, 3) := by decide +kernel
theorem dX6_readLine_90 : decode cX6_readLine 90 = .ok (.iconst 0, 1) := by decide +kernel
theorem dX6_readLine_91 : decode cX6_readLine 91 = .ok (.goto 5, 3) := by decide +kernel
theorem dX6_readLine_94 : decode cX6_readLine 94 = .ok (.bipush 10, 2) := by decide +kernel
theorem dX6_readLine_96 : decode cX6_readLine 96 = .ok (.istore_n 1, 1) := by decide +kernel
theorem dX6_readLine_97 : decode cX6_readLine 97 = .ok (.aload_n 0, 1) := by decide +kernel
theorem dX6_readLine_98 : decode cX6_readLine 98 = .ok (.dup, 1) := by decide +kernel
theorem dX6_readLine_99 : decode cX6_readLine 99 = .ok (.getfield 111, 3) := by decide +kernel
theorem dX6_readLine_102 : decode cX6_readLine 102 = .ok (.iconst 1, 1) := by decide +kernel
theorem dX6_readLine_103 : decode cX6_readLine 103 = .ok (.iadd, 1) := by decide +kernel
theorem dX6_readLine_104 : decode cX6_readLine 104 = .ok (.putfield 111, 3) := by decide +kernel
theorem dX6_readLine_107 : decode cX6_readLine 107 = .ok (.aload_n 0, 1) := by decide +kernel
theorem dX6_readLine_108 : decode cX6_readLine 108 = .ok (.getfield 41, 3) := by decide +kernel
theorem dX6_readLine_111 : decode cX6_readLine 111 = .ok (.aload_n 0, 1) := by decide +kernel
theorem dX6_readLine_112 : decode cX6_readLine 112 = .ok (.getfield 121, 3) := by decide +kernel
theorem dX6_readLine_115 : decode cX6_readLine 115 = .ok (.iload_n 1, 1) := by decide +kernel
theorem dX6_readLine_116 : decode cX6_readLine 116 = .ok (.aload_n 0, 1) := by decide +kernel
theorem dX6_readLine_117 : decode cX6_readLine 117 = .ok (.bipush 48, 2) := by decide +kernel
theorem dX6_readLine_119 : decode cX6_readLine 119 = .ok (.bipush 51, 2) := by decide +kernel
theorem dX6_readLine_121 : decode cX6_readLine 121 = .ok (.invokevirtual 124, 3) := by decide +kernel
theorem dX6_readLine_124 : decode cX6_readLine 124 = .ok (.iadd, 1) := by decide +kernel
theorem dX6_readLine_125 : decode cX6_readLine 125 = .ok (.iastore, 1) := by decide +kernel
theorem dX6_readLine_126 : decode cX6_readLine 126 = .ok (.aload_n 0, 1) := by decide +kernel
theorem dX6_readLine_127 : decode cX6_readLine 127 = .ok (.dup, 1) := by decide +kernel
theorem dX6_readLine_128 : decode cX6_readLine 128 = .ok (.getfield 121, 3) := by decide +kernel
theorem dX6_readLine_131 : decode cX6_readLine 131 = .ok (.iconst 1, 1) := by decide +kernel
theorem dX6_readLine_132 : decode cX6_readLine 132 = .ok (.iadd, 1) := by decide +kernel
theorem dX6_readLine_133 : decode cX6_readLine 133 = .ok (.putfield 121, 3) := by decide +kernel
theorem dX6_readLine_136 : decode cX6_readLine 136 = .ok (.goto (-87), 3) := by decide +kernel
theorem dX6_readLine_139 : decode cX6_readLine 139 = .ok (.aload_n 0, 1) := by decide +kernel
theorem dX6_readLine_140 : decode cX6_readLine 140 = .ok (.bipush 62, 2) := by decide +kernel
theorem dX6_readLine_142 : decode cX6_readLine 142 = .ok (.invokevirtual 131, 3) := by decide +kernel
theorem dX6_readLine_145 : decode cX6_readLine 145 = .ok (.ifCond .eq 25, 3) := by decide +kernel
theorem dX6_readLine_148 : decode cX6_readLine 148 = .ok (.aload_n 0, 1) := by decide +kernel
theorem dX6_readLine_149 : decode cX6_readLine 149 = .ok (.getfield 7, 3) := by decide +kernel
theorem dX6_readLine_152 : decode cX6_readLine 152 = .ok (.iconst 1, 1) := by decide +kernel
theorem dX6_readLine_153 : decode cX6_readLine 153 = .ok (.if_icmp .le 17, 3) := by decide +kernel
theorem dX6_readLine_156 : decode cX6_readLine 156 = .ok (.aload_n 0, 1) := by decide +kernel
theorem dX6_readLine_157 : decode cX6_readLine 157 = .ok (.dup, 1) := by decide +kernel
theorem dX6_readLine_158 : decode cX6_readLine 158 = .ok (.getfield 111, 3) := by decide +kernel
theorem dX6_readLine_161 : decode cX6_readLine 161 = .ok (.iconst 1, 1) := by decide +kernel
theorem dX6_readLine_162 : decode cX6_readLine 162 = .ok (.iadd, 1) := by decide +kernel
theorem dX6_readLine_163 : decode cX6_readLine 163 = .ok (.putfield 111, 3) := by decide +kernel
theorem dX6_readLine_166 : decode cX6_readLine 166 = .ok (.aload_n 0, 1) := by decide +kernel
theorem dX6_readLine_167 : decode cX6_readLine 167 = .ok (.invokevirtual 135, 3) := by decide +kernel
theorem dX6_readLine_170 : decode cX6_readLine 170 = .ok (.aload_n 0, 1) := by decide +kernel
theorem dX6_readLine_171 : decode cX6_readLine 171 = .ok (.dup, 1) := by decide +kernel
theorem dX6_readLine_172 : decode cX6_readLine 172 = .ok (.getfield 107, 3) := by decide +kernel
theorem dX6_readLine_175 : decode cX6_readLine 175 = .ok (.aload_n 0, 1) := by decide +kernel
theorem dX6_readLine_176 : decode cX6_readLine 176 = .ok (.getfield 111, 3) := by decide +kernel
theorem dX6_readLine_179 : decode cX6_readLine 179 = .ok (.aload_n 0, 1) := by decide +kernel
theorem dX6_readLine_180 : decode cX6_readLine 180 = .ok (.getfield 104, 3) := by decide +kernel
theorem dX6_readLine_183 : decode cX6_readLine 183 = .ok (.if_icmp .ge 7, 3) := by decide +kernel
theorem dX6_readLine_186 : decode cX6_readLine 186 = .ok (.iconst 1, 1) := by decide +kernel
theorem dX6_readLine_187 : decode cX6_readLine 187 = .ok (.goto 4, 3) := by decide +kernel
theorem dX6_readLine_190 : decode cX6_readLine 190 = .ok (.iconst 0, 1) := by decide +kernel
theorem dX6_readLine_191 : decode cX6_readLine 191 = .ok (.ior, 1) := by decide +kernel
theorem dX6_readLine_192 : decode cX6_readLine 192 = .ok (.putfield 107, 3) := by decide +kernel
theorem dX6_readLine_195 : decode cX6_readLine 195 = .ok (.return_, 1) := by decide +kernel
theorem dX6_define_0 : decode cX6_define 0 = .ok (.aload_n 0, 1) := by decide +kernel
theorem dX6_define_1 : decode cX6_define 1 = .ok (.invokevirtual 138, 3) := by decide +kernel
theorem dX6_define_4 : decode cX6_define 4 = .ok (.aload_n 0, 1) := by decide +kernel
theorem dX6_define_5 : decode cX6_define 5 = .ok (.iconst 0, 1) := by decide +kernel
theorem dX6_define_6 : decode cX6_define 6 = .ok (.putfield 104, 3) := by decide +kernel
theorem dX6_define_9 : decode cX6_define 9 = .ok (.aload_n 0, 1) := by decide +kernel
theorem dX6_define_10 : decode cX6_define 10 = .ok (.aload_n 0, 1) := by decide +kernel
theorem dX6_define_11 : decode cX6_define 11 = .ok (.getfield 107, 3) := by decide +kernel
theorem dX6_define_14 : decode cX6_define 14 = .ok (.ifCond .eq 10, 3) := by decide +kernel
theorem dX6_define_17 : decode cX6_define 17 = .ok (.aload_n 0, 1) := by decide +kernel
theorem dX6_define_18 : decode cX6_define 18 = .ok (.getfield 111, 3) := by decide +kernel
theorem dX6_define_21 : decode cX6_define 21 = .ok (.goto 7, 3) := by decide +kernel
theorem dX6_define_24 : decode cX6_define 24 = .ok (.aload_n 0, 1) := by decide +kernel
theorem dX6_define_25 : decode cX6_define 25 = .ok (.getfield 38, 3) := by decide +kernel
theorem dX6_define_28 : decode cX6_define 28 = .ok (.putfield 38, 3) := by decide +kernel
theorem dX6_define_31 : decode cX6_define 31 = .ok (.aload_n 0, 1) := by decide +kernel
theorem dX6_define_32 : decode cX6_define 32 = .ok (.iconst 1, 1) := by decide +kernel
theorem dX6_define_33 : decode cX6_define 33 = .ok (.aload_n 0, 1) := by decide +kernel
theorem dX6_define_34 : decode cX6_define 34 = .ok (.getfield 107, 3) := by decide +kernel
theorem dX6_define_37 : decode cX6_define 37 = .ok (.invokevirtual 100, 3) := by decide +kernel
theorem dX6_define_40 : decode cX6_define 40 = .ok (.ifCond .eq 5, 3) := by decide +kernel
theorem dX6_define_43 : decode cX6_define 43 = .ok (.iconst 0, 1) := by decide +kernel
theorem dX6_define_44 : decode cX6_define 44 = .ok (.ireturn, 1) := by decide +kernel
theorem dX6_define_45 : decode cX6_define 45 = .ok (.aload_n 0, 1) := by decide +kernel
theorem dX6_define_46 : decode cX6_define 46 = .ok (.invokevirtual 141, 3) := by decide +kernel
theorem dX6_define_49 : decode cX6_define 49 = .ok (.aload_n 0, 1) := by decide +kernel
theorem dX6_define_50 : decode cX6_define 50 = .ok (.getfield 13, 3) := by decide +kernel
theorem dX6_define_53 : decode cX6_define 53 = .ok (.aload_n 0, 1) := by decide +kernel
theorem dX6_define_54 : decode cX6_define 54 = .ok (.getfield 128, 3) := by decide +kernel
theorem dX6_define_57 : decode cX6_define 57 = .ok (.aload_n 0, 1) := by decide +kernel
theorem dX6_define_58 : decode cX6_define 58 = .ok (.getfield 121, 3) := by decide +kernel
theorem dX6_define_61 : decode cX6_define 61 = .ok (.iastore, 1) := by decide +kernel
theorem dX6_define_62 : decode cX6_define 62 = .ok (.aload_n 0, 1) := by decide +kernel
theorem dX6_define_63 : decode cX6_define 63 = .ok (.getfield 17, 3) := by decide +kernel
theorem dX6_define_66 : decode cX6_define 66 = .ok (.aload_n 0, 1) := by decide +kernel
theorem dX6_define_67 : decode cX6_define 67 = .ok (.getfield 128, 3) := by decide +kernel
theorem dX6_define_70 : decode cX6_define 70 = .ok (.aload_n 0, 1) := by decide +kernel
theorem dX6_define_71 : decode cX6_define 71 = .ok (.getfield 114, 3) := by decide +kernel
theorem dX6_define_74 : decode cX6_define 74 = .ok (.iastore, 1) := by decide +kernel
theorem dX6_define_75 : decode cX6_define 75 = .ok (.iconst 0, 1) := by decide +kernel
theorem dX6_define_76 : decode cX6_define 76 = .ok (.istore_n 1, 1) := by decide +kernel
theorem dX6_define_77 : decode cX6_define 77 = .ok (.iload_n 1, 1) := by decide +kernel
theorem dX6_define_78 : decode cX6_define 78 = .ok (.aload_n 0, 1) := by decide +kernel
theorem dX6_define_79 : decode cX6_define 79 = .ok (.getfield 121, 3) := by decide +kernel
theorem dX6_define_82 : decode cX6_define 82 = .ok (.if_icmp .ge 26, 3) := by decide +kernel
theorem dX6_define_85 : decode cX6_define 85 = .ok (.aload_n 0, 1) := by decide +kernel
theorem dX6_define_86 : decode cX6_define 86 = .ok (.getfield 22, 3) := by decide +kernel
theorem dX6_define_89 : decode cX6_define 89 = .ok (.aload_n 0, 1) := by decide +kernel
theorem dX6_define_90 : decode cX6_define 90 = .ok (.getfield 128, 3) := by decide +kernel
theorem dX6_define_93 : decode cX6_define 93 = .ok (.aaload, 1) := by decide +kernel
theorem dX6_define_94 : decode cX6_define 94 = .ok (.iload_n 1, 1) := by decide +kernel
theorem dX6_define_95 : decode cX6_define 95 = .ok (.aload_n 0, 1) := by decide +kernel
theorem dX6_define_96 : decode cX6_define 96 = .ok (.getfield 41, 3) := by decide +kernel
theorem dX6_define_99 : decode cX6_define 99 = .ok (.iload_n 1, 1) := by decide +kernel
theorem dX6_define_100 : decode cX6_define 100 = .ok (.iaload, 1) := by decide +kernel
theorem dX6_define_101 : decode cX6_define 101 = .ok (.iastore, 1) := by decide +kernel
theorem dX6_define_102 : decode cX6_define 102 = .ok (.iinc 1 1, 3) := by decide +kernel
theorem dX6_define_105 : decode cX6_define 105 = .ok (.goto (-28), 3) := by decide +kernel
theorem dX6_define_108 : decode cX6_define 108 = .ok (.iconst 0, 1) := by decide +kernel
theorem dX6_define_109 : decode cX6_define 109 = .ok (.istore_n 1, 1) := by decide +kernel
theorem dX6_define_110 : decode cX6_define 110 = .ok (.iload_n 1, 1) := by decide +kernel
theorem dX6_define_111 : decode cX6_define 111 = .ok (.aload_n 0, 1) := by decide +kernel
theorem dX6_define_112 : decode cX6_define 112 = .ok (.getfield 114, 3) := by decide +kernel
theorem dX6_define_115 : decode cX6_define 115 = .ok (.if_icmp .ge 26, 3) := by decide +kernel
theorem dX6_define_118 : decode cX6_define 118 = .ok (.aload_n 0, 1) := by decide +kernel
theorem dX6_define_119 : decode cX6_define 119 = .ok (.getfield 25, 3) := by decide +kernel
theorem dX6_define_122 : decode cX6_define 122 = .ok (.aload_n 0, 1) := by decide +kernel
theorem dX6_define_123 : decode cX6_define 123 = .ok (.getfield 128, 3) := by decide +kernel
theorem dX6_define_126 : decode cX6_define 126 = .ok (.aaload, 1) := by decide +kernel
theorem dX6_define_127 : decode cX6_define 127 = .ok (.iload_n 1, 1) := by decide +kernel
theorem dX6_define_128 : decode cX6_define 128 = .ok (.aload_n 0, 1) := by decide +kernel
theorem dX6_define_129 : decode cX6_define 129 = .ok (.getfield 44, 3) := by decide +kernel
theorem dX6_define_132 : decode cX6_define 132 = .ok (.iload_n 1, 1) := by decide +kernel
theorem dX6_define_133 : decode cX6_define 133 = .ok (.iaload, 1) := by decide +kernel
theorem dX6_define_134 : decode cX6_define 134 = .ok (.iastore, 1) := by decide +kernel
theorem dX6_define_135 : decode cX6_define 135 = .ok (.iinc 1 1, 3) := by decide +kernel
theorem dX6_define_138 : decode cX6_define 138 = .ok (.goto (-28), 3) := by decide +kernel
theorem dX6_define_141 : decode cX6_define 141 = .ok (.aload_n 0, 1) := by decide +kernel
theorem dX6_define_142 : decode cX6_define 142 = .ok (.getfield 128, 3) := by decide +kernel
theorem dX6_define_145 : decode cX6_define 145 = .ok (.ireturn, 1) := by decide +kernel
theorem dX6_errorPosition_0 : decode cX6_errorPosition 0 = .ok (.aload_n 0, 1) := by decide +kernel
theorem dX6_errorPosition_1 : decode cX6_errorPosition 1 = .ok (.iconst 1, 1) := by decide +kernel
theorem dX6_errorPosition_2 : decode cX6_errorPosition 2 = .ok (.aload_n 0, 1) := by decide +kernel
theorem dX6_errorPosition_3 : decode cX6_errorPosition 3 = .ok (.getfield 38, 3) := by decide +kernel
theorem dX6_errorPosition_6 : decode cX6_errorPosition 6 = .ok (.ifCond .ge 7, 3) := by decide +kernel
theorem dX6_errorPosition_9 : decode cX6_errorPosition 9 = .ok (.iconst 1, 1) := by decide +kernel
theorem dX6_errorPosition_10 : decode cX6_errorPosition 10 = .ok (.goto 4, 3) := by decide +kernel
theorem dX6_errorPosition_13 : decode cX6_errorPosition 13 = .ok (.iconst 0, 1) := by decide +kernel
theorem dX6_errorPosition_14 : decode cX6_errorPosition 14 = .ok (.invokevirtual 100, 3) := by decide +kernel
theorem dX6_errorPosition_17 : decode cX6_errorPosition 17 = .ok (.ifCond .eq 7, 3) := by decide +kernel
theorem dX6_errorPosition_20 : decode cX6_errorPosition 20 = .ok (.iconst 0, 1) := by decide +kernel
theorem dX6_errorPosition_21 : decode cX6_errorPosition 21 = .ok (.goto 7, 3) := by decide +kernel
theorem dX6_errorPosition_24 : decode cX6_errorPosition 24 = .ok (.aload_n 0, 1) := by decide +kernel
theorem dX6_errorPosition_25 : decode cX6_errorPosition 25 = .ok (.getfield 38, 3) := by decide +kernel
theorem dX6_errorPosition_28 : decode cX6_errorPosition 28 = .ok (.ireturn, 1) := by decide +kernel
theorem dX6_isAction_0 : decode cX6_isAction 0 = .ok (.aload_n 0, 1) := by decide +kernel
theorem dX6_isAction_1 : decode cX6_isAction 1 = .ok (.iload_n 1, 1) := by decide +kernel
theorem dX6_isAction_2 : decode cX6_isAction 2 = .ok (.invokevirtual 144, 3) := by decide +kernel
theorem dX6_isAction_5 : decode cX6_isAction 5 = .ok (.ifCond .eq 23, 3) := by decide +kernel
theorem dX6_isAction_8 : decode cX6_isAction 8 = .ok (.iload_n 2, 1) := by decide +kernel
theorem dX6_isAction_9 : decode cX6_isAction 9 = .ok (.iconst 0, 1) := by decide +kernel
theorem dX6_isAction_10 : decode cX6_isAction 10 = .ok (.aload_n 0, 1) := by decide +kernel
theorem dX6_isAction_11 : decode cX6_isAction 11 = .ok (.getfield 13, 3) := by decide +kernel
theorem dX6_isAction_14 : decode cX6_isAction 14 = .ok (.iload_n 1, 1) := by decide +kernel
theorem dX6_isAction_15 : decode cX6_isAction 15 = .ok (.iaload, 1) := by decide +kernel
theorem dX6_isAction_16 : decode cX6_isAction 16 = .ok (.iconst 1, 1) := by decide +kernel
theorem dX6_isAction_17 : decode cX6_isAction 17 = .ok (.isub, 1) := by decide +kernel
theorem dX6_isAction_18 : decode cX6_isAction 18 = .ok (.invokestatic 86, 3) := by decide +kernel
theorem dX6_isAction_21 : decode cX6_isAction 21 = .ok (.ifCond .eq 7, 3) := by decide +kernel
theorem dX6_isAction_24 : decode cX6_isAction 24 = .ok (.iconst 1, 1) := by decide +kernel
theorem dX6_isAction_25 : decode cX6_isAction 25 = .ok (.goto 4, 3) := by decide +kernel
theorem dX6_isAction_28 : decode cX6_isAction 28 = .ok (.iconst 0, 1) := by decide +kernel
theorem dX6_isAction_29 : decode cX6_isAction 29 = .ok (.ireturn, 1) := by decide +kernel
theorem dX6_removeAction_0 : decode cX6_removeAction 0 = .ok (.aload_n 0, 1) := by decide +kernel
theorem dX6_removeAction_1 : decode cX6_removeAction 1 = .ok (.iconst 1, 1) := by decide +kernel
theorem dX6_removeAction_2 : decode cX6_removeAction 2 = .ok (.aload_n 0, 1) := by decide +kernel
theorem dX6_removeAction_3 : decode cX6_removeAction 3 = .ok (.iload_n 1, 1) := by decide +kernel
theorem dX6_removeAction_4 : decode cX6_removeAction 4 = .ok (.iload_n 2, 1) := by decide +kernel
theorem dX6_removeAction_5 : decode cX6_removeAction 5 = .ok (.invokevirtual 147, 3) := by decide +kernel
theorem dX6_removeAction_8 : decode cX6_removeAction 8 = .ok (.ifCond .ne 7, 3) := by decide +kernel
theorem dX6_removeAction_11 : decode cX6_removeAction 11 = .ok (.iconst 1, 1) := by decide +kernel
theorem dX6_removeAction_12 : decode cX6_removeAction 12 = .ok (.goto 4, 3) := by decide +kernel
theorem dX6_removeAction_15 : decode cX6_removeAction 15 = .ok (.iconst 0, 1) := by decide +kernel
theorem dX6_removeAction_16 : decode cX6_removeAction 16 = .ok (.invokevirtual 100, 3) := by decide +kernel
theorem dX6_removeAction_19 : decode cX6_removeAction 19 = .ok (.ifCond .eq 5, 3) := by decide +kernel
theorem dX6_removeAction_22 : decode cX6_removeAction 22 = .ok (.iconst 0, 1) := by decide +kernel
theorem dX6_removeAction_23 : decode cX6_removeAction 23 = .ok (.ireturn, 1) := by decide +kernel
theorem dX6_removeAction_24 : decode cX6_removeAction 24 = .ok (.aload_n 0, 1) := by decide +kernel
theorem dX6_removeAction_25 : decode cX6_removeAction 25 = .ok (.invokevirtual 141, 3) := by decide +kernel
theorem dX6_removeAction_28 : decode cX6_removeAction 28 = .ok (.aload_n 0, 1) := by decide +kernel
theorem dX6_removeAction_29 : decode cX6_removeAction 29 = .ok (.getfield 13, 3) := by decide +kernel
theorem dX6_removeAction_32 : decode cX6_removeAction 32 = .ok (.iload_n 1, 1) := by decide +kernel
theorem dX6_removeAction_33 : decode cX6_removeAction 33 = .ok (.dup2, 1) := by decide +kernel
theorem dX6_removeAction_34 : decode cX6_removeAction 34 = .ok (.iaload, 1) := by decide +kernel
theorem dX6_removeAction_35 : decode cX6_removeAction 35 = .ok (.iconst 1, 1) := by decide +kernel
theorem dX6_removeAction_36 : decode cX6_removeAction 36 = .ok (.isub, 1) := by decide +kernel
theorem dX6_removeAction_37 : decode cX6_removeAction 37 = .ok (.iastore, 1) := by decide +kernel
theorem dX6_removeAction_38 : decode cX6_removeAction 38 = .ok (.iload_n 2, 1) := by decide +kernel
theorem dX6_removeAction_39 : decode cX6_removeAction 39 = .ok (.istore_n 3, 1) := by decide +kernel
theorem dX6_removeAction_40 : decode cX6_removeAction 40 = .ok (.iload_n 3, 1) := by decide +kernel
theorem dX6_removeAction_41 : decode cX6_removeAction 41 = .ok (.aload_n 0, 1) := by decide +kernel
theorem dX6_removeAction_42 : decode cX6_removeAction 42 = .ok (.getfield 13, 3) := by decide +kernel
theorem dX6_removeAction_45 : decode cX6_removeAction 45 = .ok (.iload_n 1, 1) := by decide +kernel
theorem dX6_removeAction_46 : decode cX6_removeAction 46 = .ok (.iaload, 1) := by decide +kernel
theorem dX6_removeAction_47 : decode cX6_removeAction 47 = .ok (.if_icmp .ge 27, 3) := by decide +kernel
theorem dX6_removeAction_50 : decode cX6_removeAction 50 = .ok (.aload_n 0, 1) := by decide +kernel
theorem dX6_removeAction_51 : decode cX6_removeAction 51 = .ok (.getfield 22, 3) := by decide +kernel
theorem dX6_removeAction_54 : decode cX6_removeAction 54 = .ok (.iload_n 1, 1) := by decide +kernel
theorem dX6_removeAction_55 : decode cX6_removeAction 55 = .ok (.aaload, 1) := by decide +kernel
theorem dX6_removeAction_56 : decode cX6_removeAction 56 = .ok (.iload_n 3, 1) := by decide +kernel
theorem dX6_removeAction_57 : decode cX6_removeAction 57 = .ok (.aload_n 0, 1) := by decide +kernel
theorem dX6_removeAction_58 : decode cX6_removeAction 58 = .ok (.getfield 22, 3) := by decide +kernel
theorem dX6_removeAction_61 : decode cX6_removeAction 61 = .ok (.iload_n 1, 1) := by decide +kernel
theorem dX6_removeAction_62 : decode cX6_removeAction 62 = .ok (.aaload, 1) := by decide +kernel
theorem dX6_removeAction_63 : decode cX6_removeAction 63 = .ok (.iload_n 3, 1) := by decide +kernel
theorem dX6_removeAction_64 : decode cX6_removeAction 64 = .ok (.iconst 1, 1) := by decide +kernel
theorem dX6_removeAction_65 : decode cX6_removeAction 65 = .ok (.iadd, 1) := by decide +kernel
theorem dX6_removeAction_66 : decode cX6_removeAction 66 = .ok (.iaload, 1) := by decide +kernel
theorem dX6_removeAction_67 : decode cX6_removeAction 67 = .ok (.iastore, 1) := by decide +kernel
theorem dX6_removeAction_68 : decode cX6_removeAction 68 = .ok (.iinc 3 1, 3) := by decide +kernel
theorem dX6_removeAction_71 : decode cX6_removeAction 71 = .ok (.goto (-31), 3) := by decide +kernel
theorem dX6_removeAction_74 : decode cX6_removeAction 74 = .ok (.aload_n 0, 1) := by decide +kernel
theorem dX6_removeAction_75 : decode cX6_removeAction 75 = .ok (.getfield 13, 3) := by decide +kernel
theorem dX6_removeAction_78 : decode cX6_removeAction 78 = .ok (.iload_n 1, 1) := by decide +kernel
theorem dX6_removeAction_79 : decode cX6_removeAction 79 = .ok (.iaload, 1) := by decide +kernel
theorem dX6_removeAction_80 : decode cX6_removeAction 80 = .ok (.ireturn, 1) := by decide +kernel
theorem dX6_edgeTo_0 : decode cX6_edgeTo 0 = .ok (.iconst (-1), 1) := by decide +kernel
theorem dX6_edgeTo_1 : decode cX6_edgeTo 1 = .ok (.istore_n 3, 1) := by decide +kernel
theorem dX6_edgeTo_2 : decode cX6_edgeTo 2 = .ok (.iconst 0, 1) := by decide +kernel
theorem dX6_edgeTo_3 : decode cX6_edgeTo 3 = .ok (.istore 4, 2) := by decide +kernel
theorem dX6_edgeTo_5 : decode cX6_edgeTo 5 = .ok (.iload 4, 2) := by decide +kernel
theorem dX6_edgeTo_7 : decode cX6_edgeTo 7 = .ok (.aload_n 0, 1) := by decide +kernel
theorem dX6_edgeTo_8 : decode cX6_edgeTo 8 = .ok (.getfield 17, 3) := by decide +kernel
theorem dX6_edgeTo_11 : decode cX6_edgeTo 11 = .ok (.iload_n 1, 1) := by decide +kernel
theorem dX6_edgeTo_12 : decode cX6_edgeTo 12 = .ok (.iaload, 1) := by decide +kernel
theorem dX6_edgeTo_13 : decode cX6_edgeTo 13 = .ok (.if_icmp .ge 29, 3) := by decide +kernel
theorem dX6_edgeTo_16 : decode cX6_edgeTo 16 = .ok (.aload_n 0, 1) := by decide +kernel
theorem dX6_edgeTo_17 : decode cX6_edgeTo 17 = .ok (.getfield 25, 3) := by decide +kernel
theorem dX6_edgeTo_20 : decode cX6_edgeTo 20 = .ok (.iload_n 1, 1) := by decide +kernel
theorem dX6_edgeTo_21 : decode cX6_edgeTo 21 = .ok (.aaload, 1) := by decide +kernel
theorem dX6_edgeTo_22 : decode cX6_edgeTo 22 = .ok (.iload 4, 2) := by decide +kernel
theorem dX6_edgeTo_24 : decode cX6_edgeTo 24 = .ok (.iaload, 1) := by decide +kernel
theorem dX6_edgeTo_25 : decode cX6_edgeTo 25 = .ok (.iload_n 2, 1) := by decide +kernel
theorem dX6_edgeTo_26 : decode cX6_edgeTo 26 = .ok (.if_icmp .ne 8, 3) := by decide +kernel
theorem dX6_edgeTo_29 : decode cX6_edgeTo 29 = .ok (.iload 4, 2) := by decide +kernel
theorem dX6_edgeTo_31 : decode cX6_edgeTo 31 = .ok (.goto 4, 3) := by decide +kernel
theorem dX6_edgeTo_34 : decode cX6_edgeTo 34 = .ok (.iload_n 3, 1) := by decide +kernel
theorem dX6_edgeTo_35 : decode cX6_edgeTo 35 = .ok (.istore_n 3, 1) := by decide +kernel
theorem dX6_edgeTo_36 : decode cX6_edgeTo 36 = .ok (.iinc 4 1, 3) := by decide +kernel
theorem dX6_edgeTo_39 : decode cX6_edgeTo 39 = .ok (.goto (-34), 3) := by decide +kernel
theorem dX6_edgeTo_42 : decode cX6_edgeTo 42 = .ok (.iload_n 3, 1) := by decide +kernel
theorem dX6_edgeTo_43 : decode cX6_edgeTo 43 = .ok (.ireturn, 1) := by decide +kernel
theorem dX6_addEdge_0 : decode cX6_addEdge 0 = .ok (.aload_n 0, 1) := by decide +kernel
theorem dX6_addEdge_1 : decode cX6_addEdge 1 = .ok (.iconst 1, 1) := by decide +kernel
theorem dX6_addEdge_2 : decode cX6_addEdge 2 = .ok (.aload_n 0, 1) := by decide +kernel
theorem dX6_addEdge_3 : decode cX6_addEdge 3 = .ok (.iload_n 1, 1) := by decide +kernel
theorem dX6_addEdge_4 : decode cX6_addEdge 4 = .ok (.invokevirtual 144, 3) := by decide +kernel
theorem dX6_addEdge_7 : decode cX6_addEdge 7 = .ok (.ifCond .eq 11, 3) := by decide +kernel
theorem dX6_addEdge_10 : decode cX6_addEdge 10 = .ok (.aload_n 0, 1) := by decide +kernel
theorem dX6_addEdge_11 : decode cX6_addEdge 11 = .ok (.iload_n 2, 1) := by decide +kernel
theorem dX6_addEdge_12 : decode cX6_addEdge 12 = .ok (.invokevirtual 144, 3) := by decide +kernel
theorem dX6_addEdge_15 : decode cX6_addEdge 15 = .ok (.ifCond .ne 7, 3) := by decide +kernel
theorem dX6_addEdge_18 : decode cX6_addEdge 18 = .ok (.iconst 1, 1) := by decide +kernel
theorem dX6_addEdge_19 : decode cX6_addEdge 19 = .ok (.goto 4, 3) := by decide +kernel
theorem dX6_addEdge_22 : decode cX6_addEdge 22 = .ok (.iconst 0, 1) := by decide +kernel
theorem dX6_addEdge_23 : decode cX6_addEdge 23 = .ok (.invokevirtual 100, 3) := by decide +kernel
theorem dX6_addEdge_26 : decode cX6_addEdge 26 = .ok (.ifCond .ne 52, 3) := by decide +kernel
theorem dX6_addEdge_29 : decode cX6_addEdge 29 = .ok (.aload_n 0, 1) := by decide +kernel
theorem dX6_addEdge_30 : decode cX6_addEdge 30 = .ok (.iconst 2, 1) := by decide +kernel
theorem dX6_addEdge_31 : decode cX6_addEdge 31 = .ok (.iload_n 2, 1) := by decide +kernel
theorem dX6_addEdge_32 : decode cX6_addEdge 32 = .ok (.ifCond .eq 12, 3) := by decide +kernel
theorem dX6_addEdge_35 : decode cX6_addEdge 35 = .ok (.aload_n 0, 1) := by decide +kernel
theorem dX6_addEdge_36 : decode cX6_addEdge 36 = .ok (.iload_n 1, 1) := by decide +kernel
theorem dX6_addEdge_37 : decode cX6_addEdge 37 = .ok (.iload_n 2, 1) := by decide +kernel
theorem dX6_addEdge_38 : decode cX6_addEdge 38 = .ok (.invokevirtual 151, 3) := by decide +kernel
theorem dX6_addEdge_41 : decode cX6_addEdge 41 = .ok (.ifCond .lt 7, 3) := by decide +kernel
theorem dX6_addEdge_44 : decode cX6_addEdge 44 = .ok (.iconst 1, 1) := by decide +kernel
theorem dX6_addEdge_45 : decode cX6_addEdge 45 = .ok (.goto 4, 3) := by decide +kernel
theorem dX6_addEdge_48 : decode cX6_addEdge 48 = .ok (.iconst 0, 1) := by decide +kernel
theorem dX6_addEdge_49 : decode cX6_addEdge 49 = .ok (.invokevirtual 100, 3) := by decide +kernel
theorem dX6_addEdge_52 : decode cX6_addEdge 52 = .ok (.ifCond .ne 26, 3) := by decide +kernel
theorem dX6_addEdge_55 : decode cX6_addEdge 55 = .ok (.aload_n 0, 1) := by decide +kernel
theorem dX6_addEdge_56 : decode cX6_addEdge 56 = .ok (.iconst 3, 1) := by decide +kernel
theorem dX6_addEdge_57 : decode cX6_addEdge 57 = .ok (.aload_n 0, 1) := by decide +kernel
theorem dX6_addEdge_58 : decode cX6_addEdge 58 = .ok (.getfield 17, 3) := by decide +kernel
theorem dX6_addEdge_61 : decode cX6_addEdge 61 = .ok (.iload_n 1, 1) := by decide +kernel
theorem dX6_addEdge_62 : decode cX6_addEdge 62 = .ok (.iaload, 1) := by decide +kernel
theorem dX6_addEdge_63 : decode cX6_addEdge 63 = .ok (.iconst 3, 1) := by decide +kernel
theorem dX6_addEdge_64 : decode cX6_addEdge 64 = .ok (.if_icmp .ne 7, 3) := by decide +kernel
theorem dX6_addEdge_67 : decode cX6_addEdge 67 = .ok (.iconst 1, 1) := by decide +kernel
theorem dX6_addEdge_68 : decode cX6_addEdge 68 = .ok (.goto 4, 3) := by decide +kernel
theorem dX6_addEdge_71 : decode cX6_addEdge 71 = .ok (.iconst 0, 1) := by decide +kernel
theorem dX6_addEdge_72 : decode cX6_addEdge 72 = .ok (.invokevirtual 100, 3) := by decide +kernel
theorem dX6_addEdge_75 : decode cX6_addEdge 75 = .ok (.ifCond .eq 5, 3) := by decide +kernel
theorem dX6_addEdge_78 : decode cX6_addEdge 78 = .ok (.iconst 0, 1) := by decide +kernel
theorem dX6_addEdge_79 : decode cX6_addEdge 79 = .ok (.ireturn, 1) := by decide +kernel
theorem dX6_addEdge_80 : decode cX6_addEdge 80 = .ok (.aload_n 0, 1) := by decide +kernel
theorem dX6_addEdge_81 : decode cX6_addEdge 81 = .ok (.invokevirtual 141, 3) := by decide +kernel
theorem dX6_addEdge_84 : decode cX6_addEdge 84 = .ok (.aload_n 0, 1) := by decide +kernel
theorem dX6_addEdge_85 : decode cX6_addEdge 85 = .ok (.getfield 25, 3) := by decide +kernel
theorem dX6_addEdge_88 : decode cX6_addEdge 88 = .ok (.iload_n 1, 1) := by decide +kernel
theorem dX6_addEdge_89 : decode cX6_addEdge 89 = .ok (.aaload, 1) := by decide +kernel
theorem dX6_addEdge_90 : decode cX6_addEdge 90 = .ok (.aload_n 0, 1) := by decide +kernel
theorem dX6_addEdge_91 : decode cX6_addEdge 91 = .ok (.getfield 17, 3) := by decide +kernel
theorem dX6_addEdge_94 : decode cX6_addEdge 94 = .ok (.iload_n 1, 1) := by decide +kernel
theorem dX6_addEdge_95 : decode cX6_addEdge 95 = .ok (.iaload, 1) := by decide +kernel
theorem dX6_addEdge_96 : decode cX6_addEdge 96 = .ok (.iload_n 2, 1) := by decide +kernel
theorem dX6_addEdge_97 : decode cX6_addEdge 97 = .ok (.iastore, 1) := by decide +kernel
theorem dX6_addEdge_98 : decode cX6_addEdge 98 = .ok (.aload_n 0, 1) := by decide +kernel
theorem dX6_addEdge_99 : decode cX6_addEdge 99 = .ok (.getfield 17, 3) := by decide +kernel
theorem dX6_addEdge_102 : decode cX6_addEdge 102 = .ok (.iload_n 1, 1) := by decide +kernel
theorem dX6_addEdge_103 : decode cX6_addEdge 103 = .ok (.dup2, 1) := by decide +kernel
theorem dX6_addEdge_104 : decode cX6_addEdge 104 = .ok (.iaload, 1) := by decide +kernel
theorem dX6_addEdge_105 : decode cX6_addEdge 105 = .ok (.iconst 1, 1) := by decide +kernel
theorem dX6_addEdge_106 : decode cX6_addEdge 106 = .ok (.iadd, 1) := by decide +kernel
theorem dX6_addEdge_107 : decode cX6_addEdge 107 = .ok (.iastore, 1) := by decide +kernel
theorem dX6_addEdge_108 : decode cX6_addEdge 108 = .ok (.aload_n 0, 1) := by decide +kernel
theorem dX6_addEdge_109 : decode cX6_addEdge 109 = .ok (.getfield 17, 3) := by decide +kernel
theorem dX6_addEdge_112 : decode cX6_addEdge 112 = .ok (.iload_n 1, 1) := by decide +kernel
theorem dX6_addEdge_113 : decode cX6_addEdge 113 = .ok (.iaload, 1) := by decide +kernel
theorem dX6_addEdge_114 : decode cX6_addEdge 114 = .ok (.iconst 1, 1) := by decide +kernel
theorem dX6_addEdge_115 : decode cX6_addEdge 115 = .ok (.isub, 1) := by decide +kernel
theorem dX6_addEdge_116 : decode cX6_addEdge 116 = .ok (.ireturn, 1) := by decide +kernel
theorem dX6_removeEdge_0 : decode cX6_removeEdge 0 = .ok (.aload_n 0, 1) := by decide +kernel
theorem dX6_removeEdge_1 : decode cX6_removeEdge 1 = .ok (.iconst 1, 1) := by decide +kernel
theorem dX6_removeEdge_2 : decode cX6_removeEdge 2 = .ok (.aload_n 0, 1) := by decide +kernel
theorem dX6_removeEdge_3 : decode cX6_removeEdge 3 = .ok (.iload_n 1, 1) := by decide +kernel
theorem dX6_removeEdge_4 : decode cX6_removeEdge 4 = .ok (.invokevirtual 144, 3) := by decide +kernel
theorem dX6_removeEdge_7 : decode cX6_removeEdge 7 = .ok (.ifCond .eq 11, 3) := by decide +kernel
theorem dX6_removeEdge_10 : decode cX6_removeEdge 10 = .ok (.aload_n 0, 1) := by decide +kernel
theorem dX6_removeEdge_11 : decode cX6_removeEdge 11 = .ok (.iload_n 2, 1) := by decide +kernel
theorem dX6_removeEdge_12 : decode cX6_removeEdge 12 = .ok (.invokevirtual 144, 3) := by decide +kernel
theorem dX6_removeEdge_15 : decode cX6_removeEdge 15 = .ok (.ifCond .ne 7, 3) := by decide +kernel
theorem dX6_removeEdge_18 : decode cX6_removeEdge 18 = .ok (.iconst 1, 1) := by decide +kernel
theorem dX6_removeEdge_19 : decode cX6_removeEdge 19 = .ok (.goto 4, 3) := by decide +kernel
theorem dX6_removeEdge_22 : decode cX6_removeEdge 22 = .ok (.iconst 0, 1) := by decide +kernel
theorem dX6_removeEdge_23 : decode cX6_removeEdge 23 = .ok (.invokevirtual 100, 3) := by decide +kernel
theorem dX6_removeEdge_26 : decode cX6_removeEdge 26 = .ok (.ifCond .ne 25, 3) := by decide +kernel
theorem dX6_removeEdge_29 : decode cX6_removeEdge 29 = .ok (.aload_n 0, 1) := by decide +kernel
theorem dX6_removeEdge_30 : decode cX6_removeEdge 30 = .ok (.iconst 2, 1) := by decide +kernel
theorem dX6_removeEdge_31 : decode cX6_removeEdge 31 = .ok (.aload_n 0, 1) := by decide +kernel
theorem dX6_removeEdge_32 : decode cX6_removeEdge 32 = .ok (.iload_n 1, 1) := by decide +kernel
theorem dX6_removeEdge_33 : decode cX6_removeEdge 33 = .ok (.iload_n 2, 1) := by decide +kernel
theorem dX6_removeEdge_34 : decode cX6_removeEdge 34 = .ok (.invokevirtual 151, 3) := by decide +kernel
theorem dX6_removeEdge_37 : decode cX6_removeEdge 37 = .ok (.ifCond .ge 7, 3) := by decide +kernel
theorem dX6_removeEdge_40 : decode cX6_removeEdge 40 = .ok (.iconst 1, 1) := by decide +kernel
theorem dX6_removeEdge_41 : decode cX6_removeEdge 41 = .ok (.goto 4, 3) := by decide +kernel
theorem dX6_removeEdge_44 : decode cX6_removeEdge 44 = .ok (.iconst 0, 1) := by decide +kernel
theorem dX6_removeEdge_45 : decode cX6_removeEdge 45 = .ok (.invokevirtual 100, 3) := by decide +kernel
theorem dX6_removeEdge_48 : decode cX6_removeEdge 48 = .ok (.ifCond .eq 5, 3) := by decide +kernel
theorem dX6_removeEdge_51 : decode cX6_removeEdge 51 = .ok (.iconst 0, 1) := by decide +kernel
theorem dX6_removeEdge_52 : decode cX6_removeEdge 52 = .ok (.ireturn, 1) := by decide +kernel
theorem dX6_removeEdge_53 : decode cX6_removeEdge 53 = .ok (.aload_n 0, 1) := by decide +kernel
theorem dX6_removeEdge_54 : decode cX6_removeEdge 54 = .ok (.invokevirtual 141, 3) := by decide +kernel
theorem dX6_removeEdge_57 : decode cX6_removeEdge 57 = .ok (.aload_n 0, 1) := by decide +kernel
theorem dX6_removeEdge_58 : decode cX6_removeEdge 58 = .ok (.iload_n 1, 1) := by decide +kernel
theorem dX6_removeEdge_59 : decode cX6_removeEdge 59 = .ok (.iload_n 2, 1) := by decide +kernel
theorem dX6_removeEdge_60 : decode cX6_removeEdge 60 = .ok (.invokevirtual 151, 3) := by decide +kernel
theorem dX6_removeEdge_63 : decode cX6_removeEdge 63 = .ok (.istore_n 3, 1) := by decide +kernel
theorem dX6_removeEdge_64 : decode cX6_removeEdge 64 = .ok (.aload_n 0, 1) := by decide +kernel
theorem dX6_removeEdge_65 : decode cX6_removeEdge 65 = .ok (.getfield 17, 3) := by decide +kernel
theorem dX6_removeEdge_68 : decode cX6_removeEdge 68 = .ok (.iload_n 1, 1) := by decide +kernel
theorem dX6_removeEdge_69 : decode cX6_removeEdge 69 = .ok (.dup2, 1) := by decide +kernel
theorem dX6_removeEdge_70 : decode cX6_removeEdge 70 = .ok (.iaload, 1) := by decide +kernel
theorem dX6_removeEdge_71 : decode cX6_removeEdge 71 = .ok (.iconst 1, 1) := by decide +kernel
theorem dX6_removeEdge_72 : decode cX6_removeEdge 72 = .ok (.isub, 1) := by decide +kernel
theorem dX6_removeEdge_73 : decode cX6_removeEdge 73 = .ok (.iastore, 1) := by decide +kernel
theorem dX6_removeEdge_74 : decode cX6_removeEdge 74 = .ok (.iload_n 3, 1) := by decide +kernel
theorem dX6_removeEdge_75 : decode cX6_removeEdge 75 = .ok (.istore 4, 2) := by decide +kernel
theorem dX6_removeEdge_77 : decode cX6_removeEdge 77 = .ok (.iload 4, 2) := by decide +kernel
theorem dX6_removeEdge_79 : decode cX6_removeEdge 79 = .ok (.aload_n 0, 1) := by decide +kernel
theorem dX6_removeEdge_80 : decode cX6_removeEdge 80 = .ok (.getfield 17, 3) := by decide +kernel
theorem dX6_removeEdge_83 : decode cX6_removeEdge 83 = .ok (.iload_n 1, 1) := by decide +kernel
theorem dX6_removeEdge_84 : decode cX6_removeEdge 84 = .ok (.iaload, 1) := by decide +kernel
theorem dX6_removeEdge_85 : decode cX6_removeEdge 85 = .ok (.if_icmp .ge 29, 3) := by decide +kernel
theorem dX6_removeEdge_88 : decode cX6_removeEdge 88 = .ok (.aload_n 0, 1) := by decide +kernel
theorem dX6_removeEdge_89 : decode cX6_removeEdge 89 = .ok (.getfield 25, 3) := by decide +kernel
theorem dX6_removeEdge_92 : decode cX6_removeEdge 92 = .ok (.iload_n 1, 1) := by decide +kernel
theorem dX6_removeEdge_93 : decode cX6_removeEdge 93 = .ok (.aaload, 1) := by decide +kernel
theorem dX6_removeEdge_94 : decode cX6_removeEdge 94 = .ok (.iload 4, 2) := by decide +kernel
theorem dX6_removeEdge_96 : decode cX6_removeEdge 96 = .ok (.aload_n 0, 1) := by decide +kernel
theorem dX6_removeEdge_97 : decode cX6_removeEdge 97 = .ok (.getfield 25, 3) := by decide +kernel
theorem dX6_removeEdge_100 : decode cX6_removeEdge 100 = .ok (.iload_n 1, 1) := by decide +kernel
theorem dX6_removeEdge_101 : decode cX6_removeEdge 101 = .ok (.aaload, 1) := by decide +kernel
theorem dX6_removeEdge_102 : decode cX6_removeEdge 102 = .ok (.iload 4, 2) := by decide +kernel
theorem dX6_removeEdge_104 : decode cX6_removeEdge 104 = .ok (.iconst 1, 1) := by decide +kernel
theorem dX6_removeEdge_105 : decode cX6_removeEdge 105 = .ok (.iadd, 1) := by decide +kernel
theorem dX6_removeEdge_106 : decode cX6_removeEdge 106 = .ok (.iaload, 1) := by decide +kernel
theorem dX6_removeEdge_107 : decode cX6_removeEdge 107 = .ok (.iastore, 1) := by decide +kernel
theorem dX6_removeEdge_108 : decode cX6_removeEdge 108 = .ok (.iinc 4 1, 3) := by decide +kernel
theorem dX6_removeEdge_111 : decode cX6_removeEdge 111 = .ok (.goto (-34), 3) := by decide +kernel
theorem dX6_removeEdge_114 : decode cX6_removeEdge 114 = .ok (.aload_n 0, 1) := by decide +kernel
theorem dX6_removeEdge_115 : decode cX6_removeEdge 115 = .ok (.getfield 17, 3) := by decide +kernel
theorem dX6_removeEdge_118 : decode cX6_removeEdge 118 = .ok (.iload_n 1, 1) := by decide +kernel
theorem dX6_removeEdge_119 : decode cX6_removeEdge 119 = .ok (.iaload, 1) := by decide +kernel
theorem dX6_removeEdge_120 : decode cX6_removeEdge 120 = .ok (.ireturn, 1) := by decide +kernel
theorem dX6_thread_0 : decode cX6_thread 0 = .ok (.aload_n 0, 1) := by decide +kernel
theorem dX6_thread_1 : decode cX6_thread 1 = .ok (.iconst 1, 1) := by decide +kernel
theorem dX6_thread_2 : decode cX6_thread 2 = .ok (.aload_n 0, 1) := by decide +kernel
theorem dX6_thread_3 : decode cX6_thread 3 = .ok (.iload_n 1, 1) := by decide +kernel
theorem dX6_thread_4 : decode cX6_thread 4 = .ok (.invokevirtual 144, 3) := by decide +kernel
theorem dX6_thread_7 : decode cX6_thread 7 = .ok (.ifCond .eq 19, 3) := by decide +kernel
theorem dX6_thread_10 : decode cX6_thread 10 = .ok (.aload_n 0, 1) := by decide +kernel
theorem dX6_thread_11 : decode cX6_thread 11 = .ok (.iload_n 2, 1) := by decide +kernel
theorem dX6_thread_12 : decode cX6_thread 12 = .ok (.invokevirtual 144, 3) := by decide +kernel
theorem dX6_thread_15 : decode cX6_thread 15 = .ok (.ifCond .eq 11, 3) := by decide +kernel
theorem dX6_thread_18 : decode cX6_thread 18 = .ok (.aload_n 0, 1) := by decide +kernel
theorem dX6_thread_19 : decode cX6_thread 19 = .ok (.iload_n 3, 1) := by decide +kernel
theorem dX6_thread_20 : decode cX6_thread 20 = .ok (.invokevirtual 144, 3) := by decide +kernel
theorem dX6_thread_23 : decode cX6_thread 23 = .ok (.ifCond .ne 7, 3) := by decide +kernel
theorem dX6_thread_26 : decode cX6_thread 26 = .ok (.iconst 1, 1) := by decide +kernel
theorem dX6_thread_27 : decode cX6_thread 27 = .ok (.goto 4, 3) := by decide +kernel
theorem dX6_thread_30 : decode cX6_thread 30 = .ok (.iconst 0, 1) := by decide +kernel
theorem dX6_thread_31 : decode cX6_thread 31 = .ok (.invokevirtual 100, 3) := by decide +kernel
theorem dX6_thread_34 : decode cX6_thread 34 = .ok (.ifCond .eq 5, 3) := by decide +kernel
theorem dX6_thread_37 : decode cX6_thread 37 = .ok (.iconst 0, 1) := by decide +kernel
theorem dX6_thread_38 : decode cX6_thread 38 = .ok (.ireturn, 1) := by decide +kernel
theorem dX6_thread_39 : decode cX6_thread 39 = .ok (.aload_n 0, 1) := by decide +kernel
theorem dX6_thread_40 : decode cX6_thread 40 = .ok (.iconst 2, 1) := by decide +kernel
theorem dX6_thread_41 : decode cX6_thread 41 = .ok (.aload_n 0, 1) := by decide +kernel
theorem dX6_thread_42 : decode cX6_thread 42 = .ok (.iload_n 1, 1) := by decide +kernel
theorem dX6_thread_43 : decode cX6_thread 43 = .ok (.iload_n 2, 1) := by decide +kernel
theorem dX6_thread_44 : decode cX6_thread 44 = .ok (.invokevirtual 151, 3) := by decide +kernel
theorem dX6_thread_47 : decode cX6_thread 47 = .ok (.ifCond .lt 12, 3) := by decide +kernel
theorem dX6_thread_50 : decode cX6_thread 50 = .ok (.aload_n 0, 1) := by decide +kernel
theorem dX6_thread_51 : decode cX6_thread 51 = .ok (.iload_n 2, 1) := by decide +kernel
theorem dX6_thread_52 : decode cX6_thread 52 = .ok (.iload_n 3, 1) := by decide +kernel
theorem dX6_thread_53 : decode cX6_thread 53 = .ok (.invokevirtual 151, 3) := by decide +kernel
theorem dX6_thread_56 : decode cX6_thread 56 = .ok (.ifCond .ge 7, 3) := by decide +kernel
theorem dX6_thread_59 : decode cX6_thread 59 = .ok (.iconst 1, 1) := by decide +kernel
theorem dX6_thread_60 : decode cX6_thread 60 = .ok (.goto 4, 3) := by decide +kernel
theorem dX6_thread_63 : decode cX6_thread 63 = .ok (.iconst 0, 1) := by decide +kernel
theorem dX6_thread_64 : decode cX6_thread 64 = .ok (.invokevirtual 100, 3) := by decide +kernel
theorem dX6_thread_67 : decode cX6_thread 67 = .ok (.ifCond .ne 25, 3) := by decide +kernel
theorem dX6_thread_70 : decode cX6_thread 70 = .ok (.aload_n 0, 1) := by decide +kernel
theorem dX6_thread_71 : decode cX6_thread 71 = .ok (.iconst 3, 1) := by decide +kernel
theorem dX6_thread_72 : decode cX6_thread 72 = .ok (.aload_n 0, 1) := by decide +kernel
theorem dX6_thread_73 : decode cX6_thread 73 = .ok (.getfield 7, 3) := by decide +kernel
theorem dX6_thread_76 : decode cX6_thread 76 = .ok (.bipush 14, 2) := by decide +kernel
theorem dX6_thread_78 : decode cX6_thread 78 = .ok (.if_icmp .ne 7, 3) := by decide +kernel
theorem dX6_thread_81 : decode cX6_thread 81 = .ok (.iconst 1, 1) := by decide +kernel
theorem dX6_thread_82 : decode cX6_thread 82 = .ok (.goto 4, 3) := by decide +kernel
theorem dX6_thread_85 : decode cX6_thread 85 = .ok (.iconst 0, 1) := by decide +kernel
theorem dX6_thread_86 : decode cX6_thread 86 = .ok (.invokevirtual 100, 3) := by decide +kernel
theorem dX6_thread_89 : decode cX6_thread 89 = .ok (.ifCond .eq 5, 3) := by decide +kernel
theorem dX6_thread_92 : decode cX6_thread 92 = .ok (.iconst 0, 1) := by decide +kernel
theorem dX6_thread_93 : decode cX6_thread 93 = .ok (.ireturn, 1) := by decide +kernel
theorem dX6_thread_94 : decode cX6_thread 94 = .ok (.aload_n 0, 1) := by decide +kernel
theorem dX6_thread_95 : decode cX6_thread 95 = .ok (.invokevirtual 141, 3) := by decide +kernel
theorem dX6_thread_98 : decode cX6_thread 98 = .ok (.aload_n 0, 1) := by decide +kernel
theorem dX6_thread_99 : decode cX6_thread 99 = .ok (.getfield 7, 3) := by decide +kernel
theorem dX6_thread_102 : decode cX6_thread 102 = .ok (.istore 4, 2) := by decide +kernel
theorem dX6_thread_104 : decode cX6_thread 104 = .ok (.aload_n 0, 1) := by decide +kernel
theorem dX6_thread_105 : decode cX6_thread 105 = .ok (.dup, 1) := by decide +kernel
theorem dX6_thread_106 : decode cX6_thread 106 = .ok (.getfield 7, 3) := by decide +kernel
theorem dX6_thread_109 : decode cX6_thread 109 = .ok (.iconst 1, 1) := by decide +kernel
theorem dX6_thread_110 : decode cX6_thread 110 = .ok (.iadd, 1) := by decide +kernel
theorem dX6_thread_111 : decode cX6_thread 111 = .ok (.putfield 7, 3) := by decide +kernel
theorem dX6_thread_114 : decode cX6_thread 114 = .ok (.aload_n 0, 1) := by decide +kernel
theorem dX6_thread_115 : decode cX6_thread 115 = .ok (.getfield 13, 3) := by decide +kernel
theorem dX6_thread_118 : decode cX6_thread 118 = .ok (.iload 4, 2) := by decide +kernel
theorem dX6_thread_120 : decode cX6_thread 120 = .ok (.aload_n 0, 1) := by decide +kernel
theorem dX6_thread_121 : decode cX6_thread 121 = .ok (.getfield 13, 3) := by decide +kernel
theorem dX6_thread_124 : decode cX6_thread 124 = .ok (.iload_n 2, 1) := by decide +kernel
theorem dX6_thread_125 : decode cX6_thread 125 = .ok (.iaload, 1) := by decide +kernel
theorem dX6_thread_126 : decode cX6_thread 126 = .ok (.iastore, 1) := by decide +kernel
theorem dX6_thread_127 : decode cX6_thread 127 = .ok (.iconst 0, 1) := by decide +kernel
theorem dX6_thread_128 : decode cX6_thread 128 = .ok (.istore 5, 2) := by decide +kernel
theorem dX6_thread_130 : decode cX6_thread 130 = .ok (.iload 5, 2) := by decide +kernel
theorem dX6_thread_132 : decode cX6_thread 132 = .ok (.aload_n 0, 1) := by decide +kernel
theorem dX6_thread_133 : decode cX6_thread 133 = .ok (.getfield 13, 3) := by decide +kernel
theorem dX6_thread_136 : decode cX6_thread 136 = .ok (.iload_n 2, 1) := by decide +kernel
theorem dX6_thread_137 : decode cX6_thread 137 = .ok (.iaload, 1) := by decide +kernel
theorem dX6_thread_138 : decode cX6_thread 138 = .ok (.if_icmp .ge 28, 3) := by decide +kernel
theorem dX6_thread_141 : decode cX6_thread 141 = .ok (.aload_n 0, 1) := by decide +kernel
theorem dX6_thread_142 : decode cX6_thread 142 = .ok (.getfield 22, 3) := by decide +kernel
theorem dX6_thread_145 : decode cX6_thread 145 = .ok (.iload 4, 2) := by decide +kernel
theorem dX6_thread_147 : decode cX6_thread 147 = .ok (.aaload, 1) := by decide +kernel
theorem dX6_thread_148 : decode cX6_thread 148 = .ok (.iload 5, 2) := by decide +kernel
theorem dX6_thread_150 : decode cX6_thread 150 = .ok (.aload_n 0, 1) := by decide +kernel
theorem dX6_thread_151 : decode cX6_thread 151 = .ok (.getfield 22, 3) := by decide +kernel
theorem dX6_thread_154 : decode cX6_thread 154 = .ok (.iload_n 2, 1) := by decide +kernel
theorem dX6_thread_155 : decode cX6_thread 155 = .ok (.aaload, 1) := by decide +kernel
theorem dX6_thread_156 : decode cX6_thread 156 = .ok (.iload 5, 2) := by decide +kernel
theorem dX6_thread_158 : decode cX6_thread 158 = .ok (.iaload, 1) := by decide +kernel
theorem dX6_thread_159 : decode cX6_thread 159 = .ok (.iastore, 1) := by decide +kernel
theorem dX6_thread_160 : decode cX6_thread 160 = .ok (.iinc 5 1, 3) := by decide +kernel
theorem dX6_thread_163 : decode cX6_thread 163 = .ok (.goto (-33), 3) := by decide +kernel
theorem dX6_thread_166 : decode cX6_thread 166 = .ok (.aload_n 0, 1) := by decide +kernel
theorem dX6_thread_167 : decode cX6_thread 167 = .ok (.getfield 17, 3) := by decide +kernel
theorem dX6_thread_170 : decode cX6_thread 170 = .ok (.iload 4, 2) := by decide +kernel
theorem dX6_thread_172 : decode cX6_thread 172 = .ok (.iconst 1, 1) := by decide +kernel
theorem dX6_thread_173 : decode cX6_thread 173 = .ok (.iastore, 1) := by decide +kernel
theorem dX6_thread_174 : decode cX6_thread 174 = .ok (.aload_n 0, 1) := by decide +kernel
theorem dX6_thread_175 : decode cX6_thread 175 = .ok (.getfield 25, 3) := by decide +kernel
theorem dX6_thread_178 : decode cX6_thread 178 = .ok (.iload 4, 2) := by decide +kernel
theorem dX6_thread_180 : decode cX6_thread 180 = .ok (.aaload, 1) := by decide +kernel
theorem dX6_thread_181 : decode cX6_thread 181 = .ok (.iconst 0, 1) := by decide +kernel
theorem dX6_thread_182 : decode cX6_thread 182 = .ok (.iload_n 3, 1) := by decide +kernel
theorem dX6_thread_183 : decode cX6_thread 183 = .ok (.iastore, 1) := by decide +kernel
theorem dX6_thread_184 : decode cX6_thread 184 = .ok (.aload_n 0, 1) := by decide +kernel
theorem dX6_thread_185 : decode cX6_thread 185 = .ok (.getfield 25, 3) := by decide +kernel
theorem dX6_thread_188 : decode cX6_thread 188 = .ok (.iload_n 1, 1) := by decide +kernel
theorem dX6_thread_189 : decode cX6_thread 189 = .ok (.aaload, 1) := by decide +kernel
theorem dX6_thread_190 : decode cX6_thread 190 = .ok (.aload_n 0, 1) := by decide +kernel
theorem dX6_thread_191 : decode cX6_thread 191 = .ok (.iload_n 1, 1) := by decide +kernel
theorem dX6_thread_192 : decode cX6_thread 192 = .ok (.iload_n 2, 1) := by decide +kernel
theorem dX6_thread_193 : decode cX6_thread 193 = .ok (.invokevirtual 151, 3) := by decide +kernel
theorem dX6_thread_196 : decode cX6_thread 196 = .ok (.iload 4, 2) := by decide +kernel
theorem dX6_thread_198 : decode cX6_thread 198 = .ok (.iastore, 1) := by decide +kernel
theorem dX6_thread_199 : decode cX6_thread 199 = .ok (.iload 4, 2) := by decide +kernel
theorem dX6_thread_201 : decode cX6_thread 201 = .ok (.ireturn, 1) := by decide +kernel
theorem dX6_actionCount_0 : decode cX6_actionCount 0 = .ok (.aload_n 0, 1) := by decide +kernel
theorem dX6_actionCount_1 : decode cX6_actionCount 1 = .ok (.iconst 1, 1) := by decide +kernel
theorem dX6_actionCount_2 : decode cX6_actionCount 2 = .ok (.aload_n 0, 1) := by decide +kernel
theorem dX6_actionCount_3 : decode cX6_actionCount 3 = .ok (.iload_n 1, 1) := by decide +kernel
theorem dX6_actionCount_4 : decode cX6_actionCount 4 = .ok (.invokevirtual 144, 3) := by decide +kernel
theorem dX6_actionCount_7 : decode cX6_actionCount 7 = .ok (.ifCond .ne 7, 3) := by decide +kernel
theorem dX6_actionCount_10 : decode cX6_actionCount 10 = .ok (.iconst 1, 1) := by decide +kernel
theorem dX6_actionCount_11 : decode cX6_actionCount 11 = .ok (.goto 4, 3) := by decide +kernel
theorem dX6_actionCount_14 : decode cX6_actionCount 14 = .ok (.iconst 0, 1) := by decide +kernel
theorem dX6_actionCount_15 : decode cX6_actionCount 15 = .ok (.invokevirtual 100, 3) := by decide +kernel
theorem dX6_actionCount_18 : decode cX6_actionCount 18 = .ok (.ifCond .eq 7, 3) := by decide +kernel
theorem dX6_actionCount_21 : decode cX6_actionCount 21 = .ok (.iconst 0, 1) := by decide +kernel
theorem dX6_actionCount_22 : decode cX6_actionCount 22 = .ok (.goto 9, 3) := by decide +kernel
theorem dX6_actionCount_25 : decode cX6_actionCount 25 = .ok (.aload_n 0, 1) := by decide +kernel
theorem dX6_actionCount_26 : decode cX6_actionCount 26 = .ok (.getfield 13, 3) := by decide +kernel
theorem dX6_actionCount_29 : decode cX6_actionCount 29 = .ok (.iload_n 1, 1) := by decide +kernel
theorem dX6_actionCount_30 : decode cX6_actionCount 30 = .ok (.iaload, 1) := by decide +kernel
theorem dX6_actionCount_31 : decode cX6_actionCount 31 = .ok (.ireturn, 1) := by decide +kernel
theorem dX6_action_0 : decode cX6_action 0 = .ok (.aload_n 0, 1) := by decide +kernel
theorem dX6_action_1 : decode cX6_action 1 = .ok (.iconst 1, 1) := by decide +kernel
theorem dX6_action_2 : decode cX6_action 2 = .ok (.aload_n 0, 1) := by decide +kernel
theorem dX6_action_3 : decode cX6_action 3 = .ok (.iload_n 1, 1) := by decide +kernel
theorem dX6_action_4 : decode cX6_action 4 = .ok (.iload_n 2, 1) := by decide +kernel
theorem dX6_action_5 : decode cX6_action 5 = .ok (.invokevirtual 147, 3) := by decide +kernel
theorem dX6_action_8 : decode cX6_action 8 = .ok (.ifCond .ne 7, 3) := by decide +kernel
theorem dX6_action_11 : decode cX6_action 11 = .ok (.iconst 1, 1) := by decide +kernel
theorem dX6_action_12 : decode cX6_action 12 = .ok (.goto 4, 3) := by decide +kernel
theorem dX6_action_15 : decode cX6_action 15 = .ok (.iconst 0, 1) := by decide +kernel
theorem dX6_action_16 : decode cX6_action 16 = .ok (.invokevirtual 100, 3) := by decide +kernel
theorem dX6_action_19 : decode cX6_action 19 = .ok (.ifCond .eq 7, 3) := by decide +kernel
theorem dX6_action_22 : decode cX6_action 22 = .ok (.iconst 0, 1) := by decide +kernel
theorem dX6_action_23 : decode cX6_action 23 = .ok (.goto 11, 3) := by decide +kernel
theorem dX6_action_26 : decode cX6_action 26 = .ok (.aload_n 0, 1) := by decide +kernel
theorem dX6_action_27 : decode cX6_action 27 = .ok (.getfield 22, 3) := by decide +kernel
theorem dX6_action_30 : decode cX6_action 30 = .ok (.iload_n 1, 1) := by decide +kernel
theorem dX6_action_31 : decode cX6_action 31 = .ok (.aaload, 1) := by decide +kernel
theorem dX6_action_32 : decode cX6_action 32 = .ok (.iload_n 2, 1) := by decide +kernel
theorem dX6_action_33 : decode cX6_action 33 = .ok (.iaload, 1) := by decide +kernel
theorem dX6_action_34 : decode cX6_action 34 = .ok (.ireturn, 1) := by decide +kernel
theorem dX6_edgeCount_0 : decode cX6_edgeCount 0 = .ok (.aload_n 0, 1) := by decide +kernel
theorem dX6_edgeCount_1 : decode cX6_edgeCount 1 = .ok (.iconst 1, 1) := by decide +kernel
theorem dX6_edgeCount_2 : decode cX6_edgeCount 2 = .ok (.aload_n 0, 1) := by decide +kernel
theorem dX6_edgeCount_3 : decode cX6_edgeCount 3 = .ok (.iload_n 1, 1) := by decide +kernel
theorem dX6_edgeCount_4 : decode cX6_edgeCount 4 = .ok (.invokevirtual 144, 3) := by decide +kernel
theorem dX6_edgeCount_7 : decode cX6_edgeCount 7 = .ok (.ifCond .ne 7, 3) := by decide +kernel
theorem dX6_edgeCount_10 : decode cX6_edgeCount 10 = .ok (.iconst 1, 1) := by decide +kernel
theorem dX6_edgeCount_11 : decode cX6_edgeCount 11 = .ok (.goto 4, 3) := by decide +kernel
theorem dX6_edgeCount_14 : decode cX6_edgeCount 14 = .ok (.iconst 0, 1) := by decide +kernel
theorem dX6_edgeCount_15 : decode cX6_edgeCount 15 = .ok (.invokevirtual 100, 3) := by decide +kernel
theorem dX6_edgeCount_18 : decode cX6_edgeCount 18 = .ok (.ifCond .eq 7, 3) := by decide +kernel
theorem dX6_edgeCount_21 : decode cX6_edgeCount 21 = .ok (.iconst 0, 1) := by decide +kernel
theorem dX6_edgeCount_22 : decode cX6_edgeCount 22 = .ok (.goto 9, 3) := by decide +kernel
theorem dX6_edgeCount_25 : decode cX6_edgeCount 25 = .ok (.aload_n 0, 1) := by decide +kernel
theorem dX6_edgeCount_26 : decode cX6_edgeCount 26 = .ok (.getfield 17, 3) := by decide +kernel
theorem dX6_edgeCount_29 : decode cX6_edgeCount 29 = .ok (.iload_n 1, 1) := by decide +kernel
theorem dX6_edgeCount_30 : decode cX6_edgeCount 30 = .ok (.iaload, 1) := by decide +kernel
theorem dX6_edgeCount_31 : decode cX6_edgeCount 31 = .ok (.ireturn, 1) := by decide +kernel
theorem dX6_target_0 : decode cX6_target 0 = .ok (.aload_n 0, 1) := by decide +kernel
theorem dX6_target_1 : decode cX6_target 1 = .ok (.iconst 1, 1) := by decide +kernel
theorem dX6_target_2 : decode cX6_target 2 = .ok (.aload_n 0, 1) := by decide +kernel
theorem dX6_target_3 : decode cX6_target 3 = .ok (.iload_n 1, 1) := by decide +kernel
theorem dX6_target_4 : decode cX6_target 4 = .ok (.invokevirtual 144, 3) := by decide +kernel
theorem dX6_target_7 : decode cX6_target 7 = .ok (.ifCond .eq 19, 3) := by decide +kernel
theorem dX6_target_10 : decode cX6_target 10 = .ok (.iload_n 2, 1) := by decide +kernel
theorem dX6_target_11 : decode cX6_target 11 = .ok (.iconst 0, 1) := by decide +kernel
theorem dX6_target_12 : decode cX6_target 12 = .ok (.aload_n 0, 1) := by decide +kernel
theorem dX6_target_13 : decode cX6_target 13 = .ok (.getfield 17, 3) := by decide +kernel
theorem dX6_target_16 : decode cX6_target 16 = .ok (.iload_n 1, 1) := by decide +kernel
theorem dX6_target_17 : decode cX6_target 17 = .ok (.iaload, 1) := by decide +kernel
theorem dX6_target_18 : decode cX6_target 18 = .ok (.iconst 1, 1) := by decide +kernel
theorem dX6_target_19 : decode cX6_target 19 = .ok (.isub, 1) := by decide +kernel
theorem dX6_target_20 : decode cX6_target 20 = .ok (.invokestatic 86, 3) := by decide +kernel
theorem dX6_target_23 : decode cX6_target 23 = .ok (.ifCond .ne 7, 3) := by decide +kernel
theorem dX6_target_26 : decode cX6_target 26 = .ok (.iconst 1, 1) := by decide +kernel
theorem dX6_target_27 : decode cX6_target 27 = .ok (.goto 4, 3) := by decide +kernel
theorem dX6_target_30 : decode cX6_target 30 = .ok (.iconst 0, 1) := by decide +kernel
theorem dX6_target_31 : decode cX6_target 31 = .ok (.invokevirtual 100, 3) := by decide +kernel
theorem dX6_target_34 : decode cX6_target 34 = .ok (.ifCond .eq 7, 3) := by decide +kernel
theorem dX6_target_37 : decode cX6_target 37 = .ok (.iconst 0, 1) := by decide +kernel
theorem dX6_target_38 : decode cX6_target 38 = .ok (.goto 11, 3) := by decide +kernel
theorem dX6_target_41 : decode cX6_target 41 = .ok (.aload_n 0, 1) := by decide +kernel
theorem dX6_target_42 : decode cX6_target 42 = .ok (.getfield 25, 3) := by decide +kernel
theorem dX6_target_45 : decode cX6_target 45 = .ok (.iload_n 1, 1) := by decide +kernel
theorem dX6_target_46 : decode cX6_target 46 = .ok (.aaload, 1) := by decide +kernel
theorem dX6_target_47 : decode cX6_target 47 = .ok (.iload_n 2, 1) := by decide +kernel
theorem dX6_target_48 : decode cX6_target 48 = .ok (.iaload, 1) := by decide +kernel
theorem dX6_target_49 : decode cX6_target 49 = .ok (.ireturn, 1) := by decide +kernel
theorem dX6_findReached_0 : decode cX6_findReached 0 = .ok (.aload_n 0, 1) := by decide +kernel
theorem dX6_findReached_1 : decode cX6_findReached 1 = .ok (.iconst 1, 1) := by decide +kernel
theorem dX6_findReached_2 : decode cX6_findReached 2 = .ok (.putfield 155, 3) := by decide +kernel
theorem dX6_findReached_5 : decode cX6_findReached 5 = .ok (.iconst 0, 1) := by decide +kernel
theorem dX6_findReached_6 : decode cX6_findReached 6 = .ok (.istore_n 1, 1) := by decide +kernel
theorem dX6_findReached_7 : decode cX6_findReached 7 = .ok (.iload_n 1, 1) := by decide +kernel
theorem dX6_findReached_8 : decode cX6_findReached 8 = .ok (.aload_n 0, 1) := by decide +kernel
theorem dX6_findReached_9 : decode cX6_findReached 9 = .ok (.getfield 155, 3) := by decide +kernel
theorem dX6_findReached_12 : decode cX6_findReached 12 = .ok (.if_icmp .eq 75, 3) := by decide +kernel
theorem dX6_findReached_15 : decode cX6_findReached 15 = .ok (.aload_n 0, 1) := by decide +kernel
theorem dX6_findReached_16 : decode cX6_findReached 16 = .ok (.getfield 155, 3) := by decide +kernel
theorem dX6_findReached_19 : decode cX6_findReached 19 = .ok (.istore_n 1, 1) := by decide +kernel
theorem dX6_findReached_20 : decode cX6_findReached 20 = .ok (.iconst 0, 1) := by decide +kernel
theorem dX6_findReached_21 : decode cX6_findReached 21 = .ok (.istore_n 2, 1) := by decide +kernel
theorem dX6_findReached_22 : decode cX6_findReached 22 = .ok (.iload_n 2, 1) := by decide +kernel
theorem dX6_findReached_23 : decode cX6_findReached 23 = .ok (.aload_n 0, 1) := by decide +kernel
theorem dX6_findReached_24 : decode cX6_findReached 24 = .ok (.getfield 7, 3) := by decide +kernel
theorem dX6_findReached_27 : decode cX6_findReached 27 = .ok (.if_icmp .ge 57, 3) := by decide +kernel
theorem dX6_findReached_30 : decode cX6_findReached 30 = .ok (.iconst 0, 1) := by decide +kernel
theorem dX6_findReached_31 : decode cX6_findReached 31 = .ok (.istore_n 3, 1) := by decide +kernel
theorem dX6_findReached_32 : decode cX6_findReached 32 = .ok (.iload_n 3, 1) := by decide +kernel
theorem dX6_findReached_33 : decode cX6_findReached 33 = .ok (.aload_n 0, 1) := by decide +kernel
theorem dX6_findReached_34 : decode cX6_findReached 34 = .ok (.getfield 17, 3) := by decide +kernel
theorem dX6_findReached_37 : decode cX6_findReached 37 = .ok (.iload_n 2, 1) := by decide +kernel
theorem dX6_findReached_38 : decode cX6_findReached 38 = .ok (.iaload, 1) := by decide +kernel
theorem dX6_findReached_39 : decode cX6_findReached 39 = .ok (.if_icmp .ge 39, 3) := by decide +kernel
theorem dX6_findReached_42 : decode cX6_findReached 42 = .ok (.aload_n 0, 1) := by decide +kernel
theorem dX6_findReached_43 : decode cX6_findReached 43 = .ok (.getfield 155, 3) := by decide +kernel
theorem dX6_findReached_46 : decode cX6_findReached 46 = .ok (.iload_n 2, 1) := by decide +kernel
theorem dX6_findReached_47 : decode cX6_findReached 47 = .ok (.invokestatic 158, 3) := by decide +kernel
theorem dX6_findReached_50 : decode cX6_findReached 50 = .ok (.ifCond .eq 28, 3) := by decide +kernel
theorem dX6_findReached_53 : decode cX6_findReached 53 = .ok (.aload_n 0, 1) := by decide +kernel
theorem dX6_findReached_54 : decode cX6_findReached 54 = .ok (.dup, 1) := by decide +kernel
theorem dX6_findReached_55 : decode cX6_findReached 55 = .ok (.getfield 155, 3) := by decide +kernel
theorem dX6_findReached_58 : decode cX6_findReached 58 = .ok (.iconst 1, 1) := by decide +kernel
theorem dX6_findReached_59 : decode cX6_findReached 59 = .ok (.aload_n 0, 1) := by decide +kernel
theorem dX6_findReached_60 : decode cX6_findReached 60 = .ok (.getfield 25, 3) := by decide +kernel
theorem dX6_findReached_63 : decode cX6_findReached 63 = .ok (.iload_n 2, 1) := by decide +kernel
theorem dX6_findReached_64 : decode cX6_findReached 64 = .ok (.aaload, 1) := by decide +kernel
theorem dX6_findReached_65 : decode cX6_findReached 65 = .ok (.iload_n 3, 1) := by decide +kernel
theorem dX6_findReached_66 : decode cX6_findReached 66 = .ok (.iaload, 1) := by decide +kernel
theorem dX6_findReached_67 : decode cX6_findReached 67 = .ok (.ishl, 1) := by decide +kernel
theorem dX6_findReached_68 : decode cX6_findReached 68 = .ok (.ior, 1) := by decide +kernel
theorem dX6_findReached_69 : decode cX6_findReached 69 = .ok (.putfield 155, 3) := by decide +kernel
theorem dX6_findReached_72 : decode cX6_findReached 72 = .ok (.iinc 3 1, 3) := by decide +kernel
theorem dX6_findReached_75 : decode cX6_findReached 75 = .ok (.goto (-43), 3) := by decide +kernel
theorem dX6_findReached_78 : decode cX6_findReached 78 = .ok (.iinc 2 1, 3) := by decide +kernel
theorem dX6_findReached_81 : decode cX6_findReached 81 = .ok (.goto (-59), 3) := by decide +kernel
theorem dX6_findReached_84 : decode cX6_findReached 84 = .ok (.goto (-77), 3) := by decide +kernel
theorem dX6_findReached_87 : decode cX6_findReached 87 = .ok (.iconst 0, 1) := by decide +kernel
theorem dX6_findReached_88 : decode cX6_findReached 88 = .ok (.istore_n 2, 1) := by decide +kernel
theorem dX6_findReached_89 : decode cX6_findReached 89 = .ok (.iload_n 2, 1) := by decide +kernel
theorem dX6_findReached_90 : decode cX6_findReached 90 = .ok (.aload_n 0, 1) := by decide +kernel
theorem dX6_findReached_91 : decode cX6_findReached 91 = .ok (.getfield 7, 3) := by decide +kernel
theorem dX6_findReached_94 : decode cX6_findReached 94 = .ok (.if_icmp .ge 16, 3) := by decide +kernel
theorem dX6_findReached_97 : decode cX6_findReached 97 = .ok (.aload_n 0, 1) := by decide +kernel
theorem dX6_findReached_98 : decode cX6_findReached 98 = .ok (.getfield 47, 3) := by decide +kernel
theorem dX6_findReached_101 : decode cX6_findReached 101 = .ok (.iload_n 2, 1) := by decide +kernel
theorem dX6_findReached_102 : decode cX6_findReached 102 = .ok (.iconst 0, 1) := by decide +kernel
theorem dX6_findReached_103 : decode cX6_findReached 103 = .ok (.iastore, 1) := by decide +kernel
theorem dX6_findReached_104 : decode cX6_findReached 104 = .ok (.iinc 2 1, 3) := by decide +kernel
theorem dX6_findReached_107 : decode cX6_findReached 107 = .ok (.goto (-18), 3) := by decide +kernel
theorem dX6_findReached_110 : decode cX6_findReached 110 = .ok (.iconst 0, 1) := by decide +kernel
theorem dX6_findReached_111 : decode cX6_findReached 111 = .ok (.istore_n 2, 1) := by decide +kernel
theorem dX6_findReached_112 : decode cX6_findReached 112 = .ok (.iload_n 2, 1) := by decide +kernel
theorem dX6_findReached_113 : decode cX6_findReached 113 = .ok (.aload_n 0, 1) := by decide +kernel
theorem dX6_findReached_114 : decode cX6_findReached 114 = .ok (.getfield 7, 3) := by decide +kernel
theorem dX6_findReached_117 : decode cX6_findReached 117 = .ok (.if_icmp .ge 57, 3) := by decide +kernel
theorem dX6_findReached_120 : decode cX6_findReached 120 = .ok (.iconst 0, 1) := by decide +kernel
theorem dX6_findReached_121 : decode cX6_findReached 121 = .ok (.istore_n 3, 1) := by decide +kernel
theorem dX6_findReached_122 : decode cX6_findReached 122 = .ok (.iload_n 3, 1) := by decide +kernel
theorem dX6_findReached_123 : decode cX6_findReached 123 = .ok (.aload_n 0, 1) := by decide +kernel
theorem dX6_findReached_124 : decode cX6_findReached 124 = .ok (.getfield 17, 3) := by decide +kernel
theorem dX6_findReached_127 : decode cX6_findReached 127 = .ok (.iload_n 2, 1) := by decide +kernel
theorem dX6_findReached_128 : decode cX6_findReached 128 = .ok (.iaload, 1) := by decide +kernel
theorem dX6_findReached_129 : decode cX6_findReached 129 = .ok (.if_icmp .ge 39, 3) := by decide +kernel
theorem dX6_findReached_132 : decode cX6_findReached 132 = .ok (.aload_n 0, 1) := by decide +kernel
theorem dX6_findReached_133 : decode cX6_findReached 133 = .ok (.getfield 155, 3) := by decide +kernel
theorem dX6_findReached_136 : decode cX6_findReached 136 = .ok (.iload_n 2, 1) := by decide +kernel
theorem dX6_findReached_137 : decode cX6_findReached 137 = .ok (.invokestatic 158, 3) := by decide +kernel
theorem dX6_findReached_140 : decode cX6_findReached 140 = .ok (.ifCond .eq 28, 3) := by decide +kernel
theorem dX6_findReached_143 : decode cX6_findReached 143 = .ok (.aload_n 0, 1) := by decide +kernel
theorem dX6_findReached_144 : decode cX6_findReached 144 = .ok (.getfield 47, 3) := by decide +kernel
theorem dX6_findReached_147 : decode cX6_findReached 147 = .ok (.aload_n 0, 1) := by decide +kernel
theorem dX6_findReached_148 : decode cX6_findReached 148 = .ok (.getfield 25, 3) := by decide +kernel
theorem dX6_findReached_151 : decode cX6_findReached 151 = .ok (.iload_n 2, 1) := by decide +kernel
theorem dX6_findReached_152 : decode cX6_findReached 152 = .ok (.aaload, 1) := by decide +kernel
theorem dX6_findReached_153 : decode cX6_findReached 153 = .ok (.iload_n 3, 1) := by decide +kernel
theorem dX6_findReached_154 : decode cX6_findReached 154 = .ok (.iaload, 1) := by decide +kernel
theorem dX6_findReached_155 : decode cX6_findReached 155 = .ok (.dup2, 1) := by decide +kernel
theorem dX6_findReached_156 : decode cX6_findReached 156 = .ok (.iaload, 1) := by decide +kernel
theorem dX6_findReached_157 : decode cX6_findReached 157 = .ok (.iconst 1, 1) := by decide +kernel
theorem dX6_findReached_158 : decode cX6_findReached 158 = .ok (.iload_n 2, 1) := by decide +kernel
theorem dX6_findReached_159 : decode cX6_findReached 159 = .ok (.ishl, 1) := by decide +kernel
theorem dX6_findReached_160 : decode cX6_findReached 160 = .ok (.ior, 1) := by decide +kernel
theorem dX6_findReached_161 : decode cX6_findReached 161 = .ok (.iastore, 1) := by decide +kernel
theorem dX6_findReached_162 : decode cX6_findReached 162 = .ok (.iinc 3 1, 3) := by decide +kernel
theorem dX6_findReached_165 : decode cX6_findReached 165 = .ok (.goto (-43), 3) := by decide +kernel
theorem dX6_findReached_168 : decode cX6_findReached 168 = .ok (.iinc 2 1, 3) := by decide +kernel
theorem dX6_findReached_171 : decode cX6_findReached 171 = .ok (.goto (-59), 3) := by decide +kernel
theorem dX6_findReached_174 : decode cX6_findReached 174 = .ok (.return_, 1) := by decide +kernel
theorem dX6_findDominators_0 : decode cX6_findDominators 0 = .ok (.iconst 0, 1) := by decide +kernel
theorem dX6_findDominators_1 : decode cX6_findDominators 1 = .ok (.istore_n 1, 1) := by decide +kernel
theorem dX6_findDominators_2 : decode cX6_findDominators 2 = .ok (.iload_n 1, 1) := by decide +kernel
theorem dX6_findDominators_3 : decode cX6_findDominators 3 = .ok (.aload_n 0, 1) := by decide +kernel
theorem dX6_findDominators_4 : decode cX6_findDominators 4 = .ok (.getfield 7, 3) := by decide +kernel
theorem dX6_findDominators_7 : decode cX6_findDominators 7 = .ok (.if_icmp .ge 27, 3) := by decide +kernel
theorem dX6_findDominators_10 : decode cX6_findDominators 10 = .ok (.aload_n 0, 1) := by decide +kernel
theorem dX6_findDominators_11 : decode cX6_findDominators 11 = .ok (.getfield 50, 3) := by decide +kernel
theorem dX6_findDominators_14 : decode cX6_findDominators 14 = .ok (.iload_n 1, 1) := by decide +kernel
theorem dX6_findDominators_15 : decode cX6_findDominators 15 = .ok (.iload_n 1, 1) := by decide +kernel
theorem dX6_findDominators_16 : decode cX6_findDominators 16 = .ok (.ifCond .ne 7, 3) := by decide +kernel
theorem dX6_findDominators_19 : decode cX6_findDominators 19 = .ok (.iconst 1, 1) := by decide +kernel
theorem dX6_findDominators_20 : decode cX6_findDominators 20 = .ok (.goto 7, 3) := by decide +kernel
theorem dX6_findDominators_23 : decode cX6_findDominators 23 = .ok (.aload_n 0, 1) := by decide +kernel
theorem dX6_findDominators_24 : decode cX6_findDominators 24 = .ok (.getfield 155, 3) := by decide +kernel
theorem dX6_findDominators_27 : decode cX6_findDominators 27 = .ok (.iastore, 1) := by decide +kernel
theorem dX6_findDominators_28 : decode cX6_findDominators 28 = .ok (.iinc 1 1, 3) := by decide +kernel
theorem dX6_findDominators_31 : decode cX6_findDominators 31 = .ok (.goto (-29), 3) := by decide +kernel
theorem dX6_findDominators_34 : decode cX6_findDominators 34 = .ok (.iconst 1, 1) := by decide +kernel
theorem dX6_findDominators_35 : decode cX6_findDominators 35 = .ok (.istore_n 1, 1) := by decide +kernel
theorem dX6_findDominators_36 : decode cX6_findDominators 36 = .ok (.iload_n 1, 1) := by decide +kernel
theorem dX6_findDominators_37 : decode cX6_findDominators 37 = .ok (.ifCond .eq 135, 3) := by decide +kernel
theorem dX6_findDominators_40 : decode cX6_findDominators 40 = .ok (.iconst 0, 1) := by decide +kernel
theorem dX6_findDominators_41 : decode cX6_findDominators 41 = .ok (.istore_n 1, 1) := by decide +kernel
theorem dX6_findDominators_42 : decode cX6_findDominators 42 = .ok (.iconst 1, 1) := by decide +kernel
theorem dX6_findDominators_43 : decode cX6_findDominators 43 = .ok (.istore_n 2, 1) := by decide +kernel
theorem dX6_findDominators_44 : decode cX6_findDominators 44 = .ok (.iload_n 2, 1) := by decide +kernel
theorem dX6_findDominators_45 : decode cX6_findDominators 45 = .ok (.aload_n 0, 1) := by decide +kernel
theorem dX6_findDominators_46 : decode cX6_findDominators 46 = .ok (.getfield 7, 3) := by decide +kernel
theorem dX6_findDominators_49 : decode cX6_findDominators 49 = .ok (.if_icmp .ge 120, 3) := by decide +kernel
theorem dX6_findDominators_52 : decode cX6_findDominators 52 = .ok (.aload_n 0, 1) := by decide +kernel
theorem dX6_findDominators_53 : decode cX6_findDominators 53 = .ok (.getfield 155, 3) := by decide +kernel
theorem dX6_findDominators_56 : decode cX6_findDominators 56 = .ok (.istore_n 3, 1) := by decide +kernel
theorem dX6_findDominators_57 : decode cX6_findDominators 57 = .ok (.iconst 0, 1) := by decide +kernel
theorem dX6_findDominators_58 : decode cX6_findDominators 58 = .ok (.istore 4, 2) := by decide +kernel
theorem dX6_findDominators_60 : decode cX6_findDominators 60 = .ok (.iload 4, 2) := by decide +kernel
theorem dX6_findDominators_62 : decode cX6_findDominators 62 = .ok (.aload_n 0, 1) := by decide +kernel
theorem dX6_findDominators_63 : decode cX6_findDominators 63 = .ok (.getfield 7, 3) := by decide +kernel
theorem dX6_findDominators_66 : decode cX6_findDominators 66 = .ok (.if_icmp .ge 40, 3) := by decide +kernel
theorem dX6_findDominators_69 : decode cX6_findDominators 69 = .ok (.iload_n 3, 1) := by decide +kernel
theorem dX6_findDominators_70 : decode cX6_findDominators 70 = .ok (.aload_n 0, 1) := by decide +kernel
theorem dX6_findDominators_71 : decode cX6_findDominators 71 = .ok (.getfield 47, 3) := by decide +kernel
theorem dX6_findDominators_74 : decode cX6_findDominators 74 = .ok (.iload_n 2, 1) := by decide +kernel
theorem dX6_findDominators_75 : decode cX6_findDominators 75 = .ok (.iaload, 1) := by decide +kernel
theorem dX6_findDominators_76 : decode cX6_findDominators 76 = .ok (.iload 4, 2) := by decide +kernel
theorem dX6_findDominators_78 : decode cX6_findDominators 78 = .ok (.invokestatic 158, 3) := by decide +kernel
theorem dX6_findDominators_81 : decode cX6_findDominators 81 = .ok (.ifCond .eq 13, 3) := by decide +kernel
theorem dX6_findDominators_84 : decode cX6_findDominators 84 = .ok (.aload_n 0, 1) := by decide +kernel
theorem dX6_findDominators_85 : decode cX6_findDominators 85 = .ok (.getfield 50, 3) := by decide +kernel
theorem dX6_findDominators_88 : decode cX6_findDominators 88 = .ok (.iload 4, 2) := by decide +kernel
theorem dX6_findDominators_90 : decode cX6_findDominators 90 = .ok (.iaload, 1) := by decide +kernel
theorem dX6_findDominators_91 : decode cX6_findDominators 91 = .ok (.goto 7, 3) := by decide +kernel
theorem dX6_findDominators_94 : decode cX6_findDominators 94 = .ok (.aload_n 0, 1) := by decide +kernel
theorem dX6_findDominators_95 : decode cX6_findDominators 95 = .ok (.getfield 155, 3) := by decide +kernel
theorem dX6_findDominators_98 : decode cX6_findDominators 98 = .ok (.iand, 1) := by decide +kernel
theorem dX6_findDominators_99 : decode cX6_findDominators 99 = .ok (.istore_n 3, 1) := by decide +kernel
theorem dX6_findDominators_100 : decode cX6_findDominators 100 = .ok (.iinc 4 1, 3) := by decide +kernel
theorem dX6_findDominators_103 : decode cX6_findDominators 103 = .ok (.goto (-43), 3) := by decide +kernel
theorem dX6_findDominators_106 : decode cX6_findDominators 106 = .ok (.iload_n 3, 1) := by decide +kernel
theorem dX6_findDominators_107 : decode cX6_findDominators 107 = .ok (.iconst 1, 1) := by decide +kernel
theorem dX6_findDominators_108 : decode cX6_findDominators 108 = .ok (.iload_n 2, 1) := by decide +kernel
theorem dX6_findDominators_109 : decode cX6_findDominators 109 = .ok (.ishl, 1) := by decide +kernel
theorem dX6_findDominators_110 : decode cX6_findDominators 110 = .ok (.ior, 1) := by decide +kernel
theorem dX6_findDominators_111 : decode cX6_findDominators 111 = .ok (.istore_n 3, 1) := by decide +kernel
theorem dX6_findDominators_112 : decode cX6_findDominators 112 = .ok (.iload_n 1, 1) := by decide +kernel
theorem dX6_findDominators_113 : decode cX6_findDominators 113 = .ok (.aload_n 0, 1) := by decide +kernel
theorem dX6_findDominators_114 : decode cX6_findDominators 114 = .ok (.getfield 155, 3) := by decide +kernel
theorem dX6_findDominators_117 : decode cX6_findDominators 117 = .ok (.iload_n 2, 1) := by decide +kernel
theorem dX6_findDominators_118 : decode cX6_findDominators 118 = .ok (.invokestatic 158, 3) := by decide +kernel
theorem dX6_findDominators_121 : decode cX6_findDominators 121 = .ok (.ifCond .eq 17, 3) := by decide +kernel
theorem dX6_findDominators_124 : decode cX6_findDominators 124 = .ok (.iload_n 3, 1) := by decide +kernel
theorem dX6_findDominators_125 : decode cX6_findDominators 125 = .ok (.aload_n 0, 1) := by decide +kernel
theorem dX6_findDominators_126 : decode cX6_findDominators 126 = .ok (.getfield 50, 3) := by decide +kernel
theorem dX6_findDominators_129 : decode cX6_findDominators 129 = .ok (.iload_n 2, 1) := by decide +kernel
theorem dX6_findDominators_130 : decode cX6_findDominators 130 = .ok (.iaload, 1) := by decide +kernel
theorem dX6_findDominators_131 : decode cX6_findDominators 131 = .ok (.if_icmp .eq 7, 3) := by decide +kernel
theorem dX6_findDominators_134 : decode cX6_findDominators 134 = .ok (.iconst 1, 1) := by decide +kernel
theorem dX6_findDominators_135 : decode cX6_findDominators 135 = .ok (.goto 4, 3) := by decide +kernel
theorem dX6_findDominators_138 : decode cX6_findDominators 138 = .ok (.iconst 0, 1) := by decide +kernel
theorem dX6_findDominators_139 : decode cX6_findDominators 139 = .ok (.ior, 1) := by decide +kernel
theorem dX6_findDominators_140 : decode cX6_findDominators 140 = .ok (.istore_n 1, 1) := by decide +kernel
theorem dX6_findDominators_141 : decode cX6_findDominators 141 = .ok (.aload_n 0, 1) := by decide +kernel
theorem dX6_findDominators_142 : decode cX6_findDominators 142 = .ok (.getfield 50, 3) := by decide +kernel
theorem dX6_findDominators_145 : decode cX6_findDominators 145 = .ok (.iload_n 2, 1) := by decide +kernel
theorem dX6_findDominators_146 : decode cX6_findDominators 146 = .ok (.aload_n 0, 1) := by decide +kernel
theorem dX6_findDominators_147 : decode cX6_findDominators 147 = .ok (.getfield 155, 3) := by decide +kernel
theorem dX6_findDominators_150 : decode cX6_findDominators 150 = .ok (.iload_n 2, 1) := by decide +kernel
theorem dX6_findDominators_151 : decode cX6_findDominators 151 = .ok (.invokestatic 158, 3) := by decide +kernel
theorem dX6_findDominators_154 : decode cX6_findDominators 154 = .ok (.ifCond .eq 7, 3) := by decide +kernel
theorem dX6_findDominators_157 : decode cX6_findDominators 157 = .ok (.iload_n 3, 1) := by decide +kernel
theorem dX6_findDominators_158 : decode cX6_findDominators 158 = .ok (.goto 4, 3) := by decide +kernel
theorem dX6_findDominators_161 : decode cX6_findDominators 161 = .ok (.iconst 0, 1) := by decide +kernel
theorem dX6_findDominators_162 : decode cX6_findDominators 162 = .ok (.iastore, 1) := by decide +kernel
theorem dX6_findDominators_163 : decode cX6_findDominators 163 = .ok (.iinc 2 1, 3) := by decide +kernel
theorem dX6_findDominators_166 : decode cX6_findDominators 166 = .ok (.goto (-122), 3) := by decide +kernel
theorem dX6_findDominators_169 : decode cX6_findDominators 169 = .ok (.goto (-133), 3) := by decide +kernel
theorem dX6_findDominators_172 : decode cX6_findDominators 172 = .ok (.return_, 1) := by decide +kernel
theorem dX6_isDominator_0 : decode cX6_isDominator 0 = .ok (.aload_n 0, 1) := by decide +kernel
theorem dX6_isDominator_1 : decode cX6_isDominator 1 = .ok (.getfield 50, 3) := by decide +kernel
theorem dX6_isDominator_4 : decode cX6_isDominator 4 = .ok (.iload_n 2, 1) := by decide +kernel
theorem dX6_isDominator_5 : decode cX6_isDominator 5 = .ok (.iaload, 1) := by decide +kernel
theorem dX6_isDominator_6 : decode cX6_isDominator 6 = .ok (.iload_n 1, 1) := by decide +kernel
theorem dX6_isDominator_7 : decode cX6_isDominator 7 = .ok (.invokestatic 158, 3) := by decide +kernel
theorem dX6_isDominator_10 : decode cX6_isDominator 10 = .ok (.ireturn, 1) := by decide +kernel
theorem dX6_findParents_0 : decode cX6_findParents 0 = .ok (.iconst 0, 1) := by decide +kernel
theorem dX6_findParents_1 : decode cX6_findParents 1 = .ok (.istore_n 1, 1) := by decide +kernel
theorem dX6_findParents_2 : decode cX6_findParents 2 = .ok (.iload_n 1, 1) := by decide +kernel
theorem dX6_findParents_3 : decode cX6_findParents 3 = .ok (.aload_n 0, 1) := by decide +kernel
theorem dX6_findParents_4 : decode cX6_findParents 4 = .ok (.getfield 7, 3) := by decide +kernel
theorem dX6_findParents_7 : decode cX6_findParents 7 = .ok (.if_icmp .ge 86, 3) := by decide +kernel
theorem dX6_findParents_10 : decode cX6_findParents 10 = .ok (.aload_n 0, 1) := by decide +kernel
theorem dX6_findParents_11 : decode cX6_findParents 11 = .ok (.getfield 53, 3) := by decide +kernel
theorem dX6_findParents_14 : decode cX6_findParents 14 = .ok (.iload_n 1, 1) := by decide +kernel
theorem dX6_findParents_15 : decode cX6_findParents 15 = .ok (.iconst (-1), 1) := by decide +kernel
theorem dX6_findParents_16 : decode cX6_findParents 16 = .ok (.iastore, 1) := by decide +kernel
theorem dX6_findParents_17 : decode cX6_findParents 17 = .ok (.aload_n 0, 1) := by decide +kernel
theorem dX6_findParents_18 : decode cX6_findParents 18 = .ok (.getfield 56, 3) := by decide +kernel
theorem dX6_findParents_21 : decode cX6_findParents 21 = .ok (.iload_n 1, 1) := by decide +kernel
theorem dX6_findParents_22 : decode cX6_findParents 22 = .ok (.iconst 0, 1) := by decide +kernel
theorem dX6_findParents_23 : decode cX6_findParents 23 = .ok (.iastore, 1) := by decide +kernel
theorem dX6_findParents_24 : decode cX6_findParents 24 = .ok (.aload_n 0, 1) := by decide +kernel
theorem dX6_findParents_25 : decode cX6_findParents 25 = .ok (.getfield 50, 3) := by decide +kernel
theorem dX6_findParents_28 : decode cX6_findParents 28 = .ok (.iload_n 1, 1) := by decide +kernel
theorem dX6_findParents_29 : decode cX6_findParents 29 = .ok (.iaload, 1) := by decide +kernel
theorem dX6_findParents_30 : decode cX6_findParents 30 = .ok (.iconst 1, 1) := by decide +kernel
theorem dX6_findParents_31 : decode cX6_findParents 31 = .ok (.iload_n 1, 1) := by decide +kernel
theorem dX6_findParents_32 : decode cX6_findParents 32 = .ok (.ishl, 1) := by decide +kernel
theorem dX6_findParents_33 : decode cX6_findParents 33 = .ok (.iconst (-1), 1) := by decide +kernel
theorem dX6_findParents_34 : decode cX6_findParents 34 = .ok (.ixor, 1) := by decide +kernel
theorem dX6_findParents_35 : decode cX6_findParents 35 = .ok (.iand, 1) := by decide +kernel
theorem dX6_findParents_36 : decode cX6_findParents 36 = .ok (.istore_n 2, 1) := by decide +kernel
theorem dX6_findParents_37 : decode cX6_findParents 37 = .ok (.iconst 0, 1) := by decide +kernel
theorem dX6_findParents_38 : decode cX6_findParents 38 = .ok (.istore_n 3, 1) := by decide +kernel
theorem dX6_findParents_39 : decode cX6_findParents 39 = .ok (.iload_n 3, 1) := by decide +kernel
theorem dX6_findParents_40 : decode cX6_findParents 40 = .ok (.aload_n 0, 1) := by decide +kernel
theorem dX6_findParents_41 : decode cX6_findParents 41 = .ok (.getfield 7, 3) := by decide +kernel
theorem dX6_findParents_44 : decode cX6_findParents 44 = .ok (.if_icmp .ge 43, 3) := by decide +kernel
theorem dX6_findParents_47 : decode cX6_findParents 47 = .ok (.aload_n 0, 1) := by decide +kernel
theorem dX6_findParents_48 : decode cX6_findParents 48 = .ok (.getfield 53, 3) := by decide +kernel
theorem dX6_findParents_51 : decode cX6_findParents 51 = .ok (.iload_n 1, 1) := by decide +kernel
theorem dX6_findParents_52 : decode cX6_findParents 52 = .ok (.iload_n 2, 1) := by decide +kernel
theorem dX6_findParents_53 : decode cX6_findParents 53 = .ok (.iload_n 3, 1) := by decide +kernel
theorem dX6_findParents_54 : decode cX6_findParents 54 = .ok (.invokestatic 158, 3) := by decide +kernel
theorem dX6_findParents_57 : decode cX6_findParents 57 = .ok (.ifCond .eq 17, 3) := by decide +kernel
theorem dX6_findParents_60 : decode cX6_findParents 60 = .ok (.aload_n 0, 1) := by decide +kernel
theorem dX6_findParents_61 : decode cX6_findParents 61 = .ok (.getfield 50, 3) := by decide +kernel
theorem dX6_findParents_64 : decode cX6_findParents 64 = .ok (.iload_n 3, 1) := by decide +kernel
theorem dX6_findParents_65 : decode cX6_findParents 65 = .ok (.iaload, 1) := by decide +kernel
theorem dX6_findParents_66 : decode cX6_findParents 66 = .ok (.iload_n 2, 1) := by decide +kernel
theorem dX6_findParents_67 : decode cX6_findParents 67 = .ok (.if_icmp .ne 7, 3) := by decide +kernel
theorem dX6_findParents_70 : decode cX6_findParents 70 = .ok (.iload_n 3, 1) := by decide +kernel
theorem dX6_findParents_71 : decode cX6_findParents 71 = .ok (.goto 9, 3) := by decide +kernel
theorem dX6_findParents_74 : decode cX6_findParents 74 = .ok (.aload_n 0, 1) := by decide +kernel
theorem dX6_findParents_75 : decode cX6_findParents 75 = .ok (.getfield 53, 3) := by decide +kernel
theorem dX6_findParents_78 : decode cX6_findParents 78 = .ok (.iload_n 1, 1) := by decide +kernel
theorem dX6_findParents_79 : decode cX6_findParents 79 = .ok (.iaload, 1) := by decide +kernel
theorem dX6_findParents_80 : decode cX6_findParents 80 = .ok (.iastore, 1) := by decide +kernel
theorem dX6_findParents_81 : decode cX6_findParents 81 = .ok (.iinc 3 1, 3) := by decide +kernel
theorem dX6_findParents_84 : decode cX6_findParents 84 = .ok (.goto (-45), 3) := by decide +kernel
theorem dX6_findParents_87 : decode cX6_findParents 87 = .ok (.iinc 1 1, 3) := by decide +kernel
theorem dX6_findParents_90 : decode cX6_findParents 90 = .ok (.goto (-88), 3) := by decide +kernel
theorem dX6_findParents_93 : decode cX6_findParents 93 = .ok (.iconst 0, 1) := by decide +kernel
theorem dX6_findParents_94 : decode cX6_findParents 94 = .ok (.istore_n 1, 1) := by decide +kernel
theorem dX6_findParents_95 : decode cX6_findParents 95 = .ok (.iload_n 1, 1) := by decide +kernel
theorem dX6_findParents_96 : decode cX6_findParents 96 = .ok (.aload_n 0, 1) := by decide +kernel
theorem dX6_findParents_97 : decode cX6_findParents 97 = .ok (.getfield 7, 3) := by decide +kernel
theorem dX6_findParents_100 : decode cX6_findParents 100 = .ok (.if_icmp .ge 105, 3) := by decide +kernel
theorem dX6_findParents_103 : decode cX6_findParents 103 = .ok (.iconst 0, 1) := by decide +kernel
theorem dX6_findParents_104 : decode cX6_findParents 104 = .ok (.istore_n 2, 1) := by decide +kernel
theorem dX6_findParents_105 : decode cX6_findParents 105 = .ok (.iload_n 2, 1) := by decide +kernel
theorem dX6_findParents_106 : decode cX6_findParents 106 = .ok (.aload_n 0, 1) := by decide +kernel
theorem dX6_findParents_107 : decode cX6_findParents 107 = .ok (.getfield 7, 3) := by decide +kernel
theorem dX6_findParents_110 : decode cX6_findParents 110 = .ok (.if_icmp .ge 89, 3) := by decide +kernel
theorem dX6_findParents_113 : decode cX6_findParents 113 = .ok (.iconst 0, 1) := by decide +kernel
theorem dX6_findParents_114 : decode cX6_findParents 114 = .ok (.istore_n 3, 1) := by decide +kernel
theorem dX6_findParents_115 : decode cX6_findParents 115 = .ok (.iload_n 3, 1) := by decide +kernel
theorem dX6_findParents_116 : decode cX6_findParents 116 = .ok (.aload_n 0, 1) := by decide +kernel
theorem dX6_findParents_117 : decode cX6_findParents 117 = .ok (.getfield 7, 3) := by decide +kernel
theorem dX6_findParents_120 : decode cX6_findParents 120 = .ok (.if_icmp .ge 73, 3) := by decide +kernel
theorem dX6_findParents_123 : decode cX6_findParents 123 = .ok (.aload_n 0, 1) := by decide +kernel
theorem dX6_findParents_124 : decode cX6_findParents 124 = .ok (.getfield 47, 3) := by decide +kernel
theorem dX6_findParents_127 : decode cX6_findParents 127 = .ok (.iload_n 1, 1) := by decide +kernel
theorem dX6_findParents_128 : decode cX6_findParents 128 = .ok (.iaload, 1) := by decide +kernel
theorem dX6_findParents_129 : decode cX6_findParents 129 = .ok (.iload_n 2, 1) := by decide +kernel
theorem dX6_findParents_130 : decode cX6_findParents 130 = .ok (.invokestatic 158, 3) := by decide +kernel
theorem dX6_findParents_133 : decode cX6_findParents 133 = .ok (.ifCond .eq 60, 3) := by decide +kernel
theorem dX6_findParents_136 : decode cX6_findParents 136 = .ok (.aload_n 0, 1) := by decide +kernel
theorem dX6_findParents_137 : decode cX6_findParents 137 = .ok (.iload_n 3, 1) := by decide +kernel
theorem dX6_findParents_138 : decode cX6_findParents 138 = .ok (.iload_n 2, 1) := by decide +kernel
theorem dX6_findParents_139 : decode cX6_findParents 139 = .ok (.invokevirtual 161, 3) := by decide +kernel
theorem dX6_findParents_142 : decode cX6_findParents 142 = .ok (.ifCond .eq 21, 3) := by decide +kernel
theorem dX6_findParents_145 : decode cX6_findParents 145 = .ok (.aload_n 0, 1) := by decide +kernel
theorem dX6_findParents_146 : decode cX6_findParents 146 = .ok (.iload_n 3, 1) := by decide +kernel
theorem dX6_findParents_147 : decode cX6_findParents 147 = .ok (.iload_n 1, 1) := by decide +kernel
theorem dX6_findParents_148 : decode cX6_findParents 148 = .ok (.invokevirtual 161, 3) := by decide +kernel
theorem dX6_findParents_151 : decode cX6_findParents 151 = .ok (.ifCond .eq 8, 3) := by decide +kernel
theorem dX6_findParents_154 : decode cX6_findParents 154 = .ok (.iload_n 3, 1) := by decide +kernel
theorem dX6_findParents_155 : decode cX6_findParents 155 = .ok (.iload_n 1, 1) := by decide +kernel
theorem dX6_findParents_156 : decode cX6_findParents 156 = .ok (.if_icmp .ne 7, 3) := by decide +kernel
theorem dX6_findParents_159 : decode cX6_findParents 159 = .ok (.iconst 1, 1) := by decide +kernel
theorem dX6_findParents_160 : decode cX6_findParents 160 = .ok (.goto 4, 3) := by decide +kernel
theorem dX6_findParents_163 : decode cX6_findParents 163 = .ok (.iconst 0, 1) := by decide +kernel
theorem dX6_findParents_164 : decode cX6_findParents 164 = .ok (.istore 4, 2) := by decide +kernel
theorem dX6_findParents_166 : decode cX6_findParents 166 = .ok (.aload_n 0, 1) := by decide +kernel
theorem dX6_findParents_167 : decode cX6_findParents 167 = .ok (.getfield 56, 3) := by decide +kernel
theorem dX6_findParents_170 : decode cX6_findParents 170 = .ok (.iload_n 3, 1) := by decide +kernel
theorem dX6_findParents_171 : decode cX6_findParents 171 = .ok (.dup2, 1) := by decide +kernel
theorem dX6_findParents_172 : decode cX6_findParents 172 = .ok (.iaload, 1) := by decide +kernel
theorem dX6_findParents_173 : decode cX6_findParents 173 = .ok (.iload 4, 2) := by decide +kernel
theorem dX6_findParents_175 : decode cX6_findParents 175 = .ok (.ifCond .eq 9, 3) := by decide +kernel
theorem dX6_findParents_178 : decode cX6_findParents 178 = .ok (.iconst 1, 1) := by decide +kernel
theorem dX6_findParents_179 : decode cX6_findParents 179 = .ok (.iload_n 1, 1) := by decide +kernel
theorem dX6_findParents_180 : decode cX6_findParents 180 = .ok (.ishl, 1) := by decide +kernel
theorem dX6_findParents_181 : decode cX6_findParents 181 = .ok (.goto 4, 3) := by decide +kernel
theorem dX6_findParents_184 : decode cX6_findParents 184 = .ok (.iconst 0, 1) := by decide +kernel
theorem dX6_findParents_185 : decode cX6_findParents 185 = .ok (.ior, 1) := by decide +kernel
theorem dX6_findParents_186 : decode cX6_findParents 186 = .ok (.iastore, 1) := by decide +kernel
theorem dX6_findParents_187 : decode cX6_findParents 187 = .ok (.iinc 3 1, 3) := by decide +kernel
theorem dX6_findParents_190 : decode cX6_findParents 190 = .ok (.goto (-75), 3) := by decide +kernel
theorem dX6_findParents_193 : decode cX6_findParents 193 = .ok (.iinc 2 1, 3) := by decide +kernel
theorem dX6_findParents_196 : decode cX6_findParents 196 = .ok (.goto (-91), 3) := by decide +kernel
theorem dX6_findParents_199 : decode cX6_findParents 199 = .ok (.iinc 1 1, 3) := by decide +kernel
theorem dX6_findParents_202 : decode cX6_findParents 202 = .ok (.goto (-107), 3) := by decide +kernel
theorem dX6_findParents_205 : decode cX6_findParents 205 = .ok (.return_, 1) := by decide +kernel
theorem dX6_lastDefinition_0 : decode cX6_lastDefinition 0 = .ok (.iconst (-1), 1) := by decide +kernel
theorem dX6_lastDefinition_1 : decode cX6_lastDefinition 1 = .ok (.istore 4, 2) := by decide +kernel
theorem dX6_lastDefinition_3 : decode cX6_lastDefinition 3 = .ok (.iconst 0, 1) := by decide +kernel
theorem dX6_lastDefinition_4 : decode cX6_lastDefinition 4 = .ok (.istore 5, 2) := by decide +kernel
theorem dX6_lastDefinition_6 : decode cX6_lastDefinition 6 = .ok (.iload 5, 2) := by decide +kernel
theorem dX6_lastDefinition_8 : decode cX6_lastDefinition 8 = .ok (.iload_n 3, 1) := by decide +kernel
theorem dX6_lastDefinition_9 : decode cX6_lastDefinition 9 = .ok (.if_icmp .ge 31, 3) := by decide +kernel
theorem dX6_lastDefinition_12 : decode cX6_lastDefinition 12 = .ok (.aload_n 0, 1) := by decide +kernel
theorem dX6_lastDefinition_13 : decode cX6_lastDefinition 13 = .ok (.getfield 22, 3) := by decide +kernel
theorem dX6_lastDefinition_16 : decode cX6_lastDefinition 16 = .ok (.iload_n 1, 1) := by decide +kernel
theorem dX6_lastDefinition_17 : decode cX6_lastDefinition 17 = .ok (.aaload, 1) := by decide +kernel
theorem dX6_lastDefinition_18 : decode cX6_lastDefinition 18 = .ok (.iload 5, 2) := by decide +kernel
theorem dX6_lastDefinition_20 : decode cX6_lastDefinition 20 = .ok (.iaload, 1) := by decide +kernel
theorem dX6_lastDefinition_21 : decode cX6_lastDefinition 21 = .ok (.iload_n 2, 1) := by decide +kernel
theorem dX6_lastDefinition_22 : decode cX6_lastDefinition 22 = .ok (.if_icmp .ne 8, 3) := by decide +kernel
theorem dX6_lastDefinition_25 : decode cX6_lastDefinition 25 = .ok (.iload 5, 2) := by decide +kernel
theorem dX6_lastDefinition_27 : decode cX6_lastDefinition 27 = .ok (.goto 5, 3) := by decide +kernel
theorem dX6_lastDefinition_30 : decode cX6_lastDefinition 30 = .ok (.iload 4, 2) := by decide +kernel
theorem dX6_lastDefinition_32 : decode cX6_lastDefinition 32 = .ok (.istore 4, 2) := by decide +kernel
theorem dX6_lastDefinition_34 : decode cX6_lastDefinition 34 = .ok (.iinc 5 1, 3) := by decide +kernel
theorem dX6_lastDefinition_37 : decode cX6_lastDefinition 37 = .ok (.goto (-31), 3) := by decide +kernel
theorem dX6_lastDefinition_40 : decode cX6_lastDefinition 40 = .ok (.iload 4, 2) := by decide +kernel
theorem dX6_lastDefinition_42 : decode cX6_lastDefinition 42 = .ok (.ireturn, 1) := by decide +kernel
theorem dX6_isDefined_0 : decode cX6_isDefined 0 = .ok (.aload_n 0, 1) := by decide +kernel
theorem dX6_isDefined_1 : decode cX6_isDefined 1 = .ok (.iload_n 1, 1) := by decide +kernel
theorem dX6_isDefined_2 : decode cX6_isDefined 2 = .ok (.iload_n 2, 1) := by decide +kernel
theorem dX6_isDefined_3 : decode cX6_isDefined 3 = .ok (.aload_n 0, 1) := by decide +kernel
theorem dX6_isDefined_4 : decode cX6_isDefined 4 = .ok (.getfield 13, 3) := by decide +kernel
theorem dX6_isDefined_7 : decode cX6_isDefined 7 = .ok (.iload_n 1, 1) := by decide +kernel
theorem dX6_isDefined_8 : decode cX6_isDefined 8 = .ok (.iaload, 1) := by decide +kernel
theorem dX6_isDefined_9 : decode cX6_isDefined 9 = .ok (.invokevirtual 164, 3) := by decide +kernel
theorem dX6_isDefined_12 : decode cX6_isDefined 12 = .ok (.ifCond .lt 7, 3) := by decide +kernel
theorem dX6_isDefined_15 : decode cX6_isDefined 15 = .ok (.iconst 1, 1) := by decide +kernel
theorem dX6_isDefined_16 : decode cX6_isDefined 16 = .ok (.goto 4, 3) := by decide +kernel
theorem dX6_isDefined_19 : decode cX6_isDefined 19 = .ok (.iconst 0, 1) := by decide +kernel
theorem dX6_isDefined_20 : decode cX6_isDefined 20 = .ok (.ireturn, 1) := by decide +kernel
theorem dX6_isUsedFirst_0 : decode cX6_isUsedFirst 0 = .ok (.iconst 0, 1) := by decide +kernel
theorem dX6_isUsedFirst_1 : decode cX6_isUsedFirst 1 = .ok (.istore_n 3, 1) := by decide +kernel
theorem dX6_isUsedFirst_2 : decode cX6_isUsedFirst 2 = .ok (.iload_n 3, 1) := by decide +kernel
theorem dX6_isUsedFirst_3 : decode cX6_isUsedFirst 3 = .ok (.aload_n 0, 1) := by decide +kernel
theorem dX6_isUsedFirst_4 : decode cX6_isUsedFirst 4 = .ok (.getfield 13, 3) := by decide +kernel
theorem dX6_isUsedFirst_7 : decode cX6_isUsedFirst 7 = .ok (.iload_n 1, 1) := by decide +kernel
theorem dX6_isUsedFirst_8 : decode cX6_isUsedFirst 8 = .ok (.iaload, 1) := by decide +kernel
theorem dX6_isUsedFirst_9 : decode cX6_isUsedFirst 9 = .ok (.if_icmp .ge 40, 3) := by decide +kernel
theorem dX6_isUsedFirst_12 : decode cX6_isUsedFirst 12 = .ok (.aload_n 0, 1) := by decide +kernel
theorem dX6_isUsedFirst_13 : decode cX6_isUsedFirst 13 = .ok (.getfield 22, 3) := by decide +kernel
theorem dX6_isUsedFirst_16 : decode cX6_isUsedFirst 16 = .ok (.iload_n 1, 1) := by decide +kernel
theorem dX6_isUsedFirst_17 : decode cX6_isUsedFirst 17 = .ok (.aaload, 1) := by decide +kernel
theorem dX6_isUsedFirst_18 : decode cX6_isUsedFirst 18 = .ok (.iload_n 3, 1) := by decide +kernel
theorem dX6_isUsedFirst_19 : decode cX6_isUsedFirst 19 = .ok (.iaload, 1) := by decide +kernel
theorem dX6_isUsedFirst_20 : decode cX6_isUsedFirst 20 = .ok (.bipush 10, 2) := by decide +kernel
theorem dX6_isUsedFirst_22 : decode cX6_isUsedFirst 22 = .ok (.iload_n 2, 1) := by decide +kernel
theorem dX6_isUsedFirst_23 : decode cX6_isUsedFirst 23 = .ok (.iadd, 1) := by decide +kernel
theorem dX6_isUsedFirst_24 : decode cX6_isUsedFirst 24 = .ok (.if_icmp .ne 19, 3) := by decide +kernel
theorem dX6_isUsedFirst_27 : decode cX6_isUsedFirst 27 = .ok (.aload_n 0, 1) := by decide +kernel
theorem dX6_isUsedFirst_28 : decode cX6_isUsedFirst 28 = .ok (.iload_n 1, 1) := by decide +kernel
theorem dX6_isUsedFirst_29 : decode cX6_isUsedFirst 29 = .ok (.iload_n 2, 1) := by decide +kernel
theorem dX6_isUsedFirst_30 : decode cX6_isUsedFirst 30 = .ok (.iload_n 3, 1) := by decide +kernel
theorem dX6_isUsedFirst_31 : decode cX6_isUsedFirst 31 = .ok (.invokevirtual 164, 3) := by decide +kernel
theorem dX6_isUsedFirst_34 : decode cX6_isUsedFirst 34 = .ok (.ifCond .ge 7, 3) := by decide +kernel
theorem dX6_isUsedFirst_37 : decode cX6_isUsedFirst 37 = .ok (.iconst 1, 1) := by decide +kernel
theorem dX6_isUsedFirst_38 : decode cX6_isUsedFirst 38 = .ok (.goto 4, 3) := by decide +kernel
theorem dX6_isUsedFirst_41 : decode cX6_isUsedFirst 41 = .ok (.iconst 0, 1) := by decide +kernel
theorem dX6_isUsedFirst_42 : decode cX6_isUsedFirst 42 = .ok (.ireturn, 1) := by decide +kernel
theorem dX6_isUsedFirst_43 : decode cX6_isUsedFirst 43 = .ok (.iinc 3 1, 3) := by decide +kernel
theorem dX6_isUsedFirst_46 : decode cX6_isUsedFirst 46 = .ok (.goto (-44), 3) := by decide +kernel
theorem dX6_isUsedFirst_49 : decode cX6_isUsedFirst 49 = .ok (.iconst 0, 1) := by decide +kernel
theorem dX6_isUsedFirst_50 : decode cX6_isUsedFirst 50 = .ok (.ireturn, 1) := by decide +kernel
theorem dX6_findLive_0 : decode cX6_findLive 0 = .ok (.iconst 0, 1) := by decide +kernel
theorem dX6_findLive_1 : decode cX6_findLive 1 = .ok (.istore_n 2, 1) := by decide +kernel
theorem dX6_findLive_2 : decode cX6_findLive 2 = .ok (.iconst (-1), 1) := by decide +kernel
theorem dX6_findLive_3 : decode cX6_findLive 3 = .ok (.istore_n 3, 1) := by decide +kernel
theorem dX6_findLive_4 : decode cX6_findLive 4 = .ok (.iload_n 2, 1) := by decide +kernel
theorem dX6_findLive_5 : decode cX6_findLive 5 = .ok (.iload_n 3, 1) := by decide +kernel
theorem dX6_findLive_6 : decode cX6_findLive 6 = .ok (.if_icmp .eq 113, 3) := by decide +kernel
theorem dX6_findLive_9 : decode cX6_findLive 9 = .ok (.iload_n 2, 1) := by decide +kernel
theorem dX6_findLive_10 : decode cX6_findLive 10 = .ok (.istore_n 3, 1) := by decide +kernel
theorem dX6_findLive_11 : decode cX6_findLive 11 = .ok (.iconst 0, 1) := by decide +kernel
theorem dX6_findLive_12 : decode cX6_findLive 12 = .ok (.istore 4, 2) := by decide +kernel
theorem dX6_findLive_14 : decode cX6_findLive 14 = .ok (.iload 4, 2) := by decide +kernel
theorem dX6_findLive_16 : decode cX6_findLive 16 = .ok (.aload_n 0, 1) := by decide +kernel
theorem dX6_findLive_17 : decode cX6_findLive 17 = .ok (.getfield 7, 3) := by decide +kernel
theorem dX6_findLive_20 : decode cX6_findLive 20 = .ok (.if_icmp .ge 96, 3) := by decide +kernel
theorem dX6_findLive_23 : decode cX6_findLive 23 = .ok (.aload_n 0, 1) := by decide +kernel
theorem dX6_findLive_24 : decode cX6_findLive 24 = .ok (.iload 4, 2) := by decide +kernel
theorem dX6_findLive_26 : decode cX6_findLive 26 = .ok (.iload_n 1, 1) := by decide +kernel
theorem dX6_findLive_27 : decode cX6_findLive 27 = .ok (.invokevirtual 168, 3) := by decide +kernel
theorem dX6_findLive_30 : decode cX6_findLive 30 = .ok (.istore 5, 2) := by decide +kernel
theorem dX6_findLive_32 : decode cX6_findLive 32 = .ok (.iconst 0, 1) := by decide +kernel
theorem dX6_findLive_33 : decode cX6_findLive 33 = .ok (.istore 6, 2) := by decide +kernel
theorem dX6_findLive_35 : decode cX6_findLive 35 = .ok (.iload 6, 2) := by decide +kernel
theorem dX6_findLive_37 : decode cX6_findLive 37 = .ok (.aload_n 0, 1) := by decide +kernel
theorem dX6_findLive_38 : decode cX6_findLive 38 = .ok (.getfield 17, 3) := by decide +kernel
theorem dX6_findLive_41 : decode cX6_findLive 41 = .ok (.iload 4, 2) := by decide +kernel
theorem dX6_findLive_43 : decode cX6_findLive 43 = .ok (.iaload, 1) := by decide +kernel
theorem dX6_findLive_44 : decode cX6_findLive 44 = .ok (.if_icmp .ge 38, 3) := by decide +kernel
theorem dX6_findLive_47 : decode cX6_findLive 47 = .ok (.aload_n 0, 1) := by decide +kernel
theorem dX6_findLive_48 : decode cX6_findLive 48 = .ok (.iload 4, 2) := by decide +kernel
theorem dX6_findLive_50 : decode cX6_findLive 50 = .ok (.iload_n 1, 1) := by decide +kernel
theorem dX6_findLive_51 : decode cX6_findLive 51 = .ok (.invokevirtual 171, 3) := by decide +kernel
theorem dX6_findLive_54 : decode cX6_findLive 54 = .ok (.ifCond .ne 28, 3) := by decide +kernel
theorem dX6_findLive_57 : decode cX6_findLive 57 = .ok (.iload 5, 2) := by decide +kernel
theorem dX6_findLive_59 : decode cX6_findLive 59 = .ok (.iload_n 2, 1) := by decide +kernel
theorem dX6_findLive_60 : decode cX6_findLive 60 = .ok (.aload_n 0, 1) := by decide +kernel
theorem dX6_findLive_61 : decode cX6_findLive 61 = .ok (.getfield 25, 3) := by decide +kernel
theorem dX6_findLive_64 : decode cX6_findLive 64 = .ok (.iload 4, 2) := by decide +kernel
theorem dX6_findLive_66 : decode cX6_findLive 66 = .ok (.aaload, 1) := by decide +kernel
theorem dX6_findLive_67 : decode cX6_findLive 67 = .ok (.iload 6, 2) := by decide +kernel
theorem dX6_findLive_69 : decode cX6_findLive 69 = .ok (.iaload, 1) := by decide +kernel
theorem dX6_findLive_70 : decode cX6_findLive 70 = .ok (.invokestatic 158, 3) := by decide +kernel
theorem dX6_findLive_73 : decode cX6_findLive 73 = .ok (.ior, 1) := by decide +kernel
theorem dX6_findLive_74 : decode cX6_findLive 74 = .ok (.istore 5, 2) := by decide +kernel
theorem dX6_findLive_76 : decode cX6_findLive 76 = .ok (.iinc 6 1, 3) := by decide +kernel
theorem dX6_findLive_79 : decode cX6_findLive 79 = .ok (.goto (-44), 3) := by decide +kernel
theorem dX6_findLive_82 : decode cX6_findLive 82 = .ok (.iload_n 2, 1) := by decide +kernel
theorem dX6_findLive_83 : decode cX6_findLive 83 = .ok (.iload 5, 2) := by decide +kernel
theorem dX6_findLive_85 : decode cX6_findLive 85 = .ok (.ifCond .eq 22, 3) := by decide +kernel
theorem dX6_findLive_88 : decode cX6_findLive 88 = .ok (.aload_n 0, 1) := by decide +kernel
theorem dX6_findLive_89 : decode cX6_findLive 89 = .ok (.getfield 155, 3) := by decide +kernel
theorem dX6_findLive_92 : decode cX6_findLive 92 = .ok (.iload 4, 2) := by decide +kernel
theorem dX6_findLive_94 : decode cX6_findLive 94 = .ok (.invokestatic 158, 3) := by decide +kernel
theorem dX6_findLive_97 : decode cX6_findLive 97 = .ok (.ifCond .eq 10, 3) := by decide +kernel
theorem dX6_findLive_100 : decode cX6_findLive 100 = .ok (.iconst 1, 1) := by decide +kernel
theorem dX6_findLive_101 : decode cX6_findLive 101 = .ok (.iload 4, 2) := by decide +kernel
theorem dX6_findLive_103 : decode cX6_findLive 103 = .ok (.ishl, 1) := by decide +kernel
theorem dX6_findLive_104 : decode cX6_findLive 104 = .ok (.goto 4, 3) := by decide +kernel
theorem dX6_findLive_107 : decode cX6_findLive 107 = .ok (.iconst 0, 1) := by decide +kernel
theorem dX6_findLive_108 : decode cX6_findLive 108 = .ok (.ior, 1) := by decide +kernel
theorem dX6_findLive_109 : decode cX6_findLive 109 = .ok (.istore_n 2, 1) := by decide +kernel
theorem dX6_findLive_110 : decode cX6_findLive 110 = .ok (.iinc 4 1, 3) := by decide +kernel
theorem dX6_findLive_113 : decode cX6_findLive 113 = .ok (.goto (-99), 3) := by decide +kernel
theorem dX6_findLive_116 : decode cX6_findLive 116 = .ok (.goto (-112), 3) := by decide +kernel
theorem dX6_findLive_119 : decode cX6_findLive 119 = .ok (.aload_n 0, 1) := by decide +kernel
theorem dX6_findLive_120 : decode cX6_findLive 120 = .ok (.getfield 59, 3) := by decide +kernel
theorem dX6_findLive_123 : decode cX6_findLive 123 = .ok (.iload_n 1, 1) := by decide +kernel
theorem dX6_findLive_124 : decode cX6_findLive 124 = .ok (.iload_n 2, 1) := by decide +kernel
theorem dX6_findLive_125 : decode cX6_findLive 125 = .ok (.iastore, 1) := by decide +kernel
theorem dX6_findLive_126 : decode cX6_findLive 126 = .ok (.return_, 1) := by decide +kernel
theorem dX6_findMerges_0 : decode cX6_findMerges 0 = .ok (.iconst 0, 1) := by decide +kernel
theorem dX6_findMerges_1 : decode cX6_findMerges 1 = .ok (.istore_n 2, 1) := by decide +kernel
theorem dX6_findMerges_2 : decode cX6_findMerges 2 = .ok (.iconst (-1), 1) := by decide +kernel
theorem dX6_findMerges_3 : decode cX6_findMerges 3 = .ok (.istore_n 3, 1) := by decide +kernel
theorem dX6_findMerges_4 : decode cX6_findMerges 4 = .ok (.iload_n 2, 1) := by decide +kernel
theorem dX6_findMerges_5 : decode cX6_findMerges 5 = .ok (.iload_n 3, 1) := by decide +kernel
theorem dX6_findMerges_6 : decode cX6_findMerges 6 = .ok (.if_icmp .eq 88, 3) := by decide +kernel
theorem dX6_findMerges_9 : decode cX6_findMerges 9 = .ok (.iload_n 2, 1) := by decide +kernel
theorem dX6_findMerges_10 : decode cX6_findMerges 10 = .ok (.istore_n 3, 1) := by decide +kernel
theorem dX6_findMerges_11 : decode cX6_findMerges 11 = .ok (.iconst 0, 1) := by decide +kernel
theorem dX6_findMerges_12 : decode cX6_findMerges 12 = .ok (.istore 4, 2) := by decide +kernel
theorem dX6_findMerges_14 : decode cX6_findMerges 14 = .ok (.iload 4, 2) := by decide +kernel
theorem dX6_findMerges_16 : decode cX6_findMerges 16 = .ok (.aload_n 0, 1) := by decide +kernel
theorem dX6_findMerges_17 : decode cX6_findMerges 17 = .ok (.getfield 7, 3) := by decide +kernel
theorem dX6_findMerges_20 : decode cX6_findMerges 20 = .ok (.if_icmp .ge 71, 3) := by decide +kernel
theorem dX6_findMerges_23 : decode cX6_findMerges 23 = .ok (.aload_n 0, 1) := by decide +kernel
theorem dX6_findMerges_24 : decode cX6_findMerges 24 = .ok (.getfield 155, 3) := by decide +kernel
theorem dX6_findMerges_27 : decode cX6_findMerges 27 = .ok (.iload 4, 2) := by decide +kernel
theorem dX6_findMerges_29 : decode cX6_findMerges 29 = .ok (.invokestatic 158, 3) := by decide +kernel
theorem dX6_findMerges_32 : decode cX6_findMerges 32 = .ok (.ifCond .eq 31, 3) := by decide +kernel
theorem dX6_findMerges_35 : decode cX6_findMerges 35 = .ok (.iload 4, 2) := by decide +kernel
theorem dX6_findMerges_37 : decode cX6_findMerges 37 = .ok (.ifCond .eq 22, 3) := by decide +kernel
theorem dX6_findMerges_40 : decode cX6_findMerges 40 = .ok (.aload_n 0, 1) := by decide +kernel
theorem dX6_findMerges_41 : decode cX6_findMerges 41 = .ok (.iload 4, 2) := by decide +kernel
theorem dX6_findMerges_43 : decode cX6_findMerges 43 = .ok (.iload_n 1, 1) := by decide +kernel
theorem dX6_findMerges_44 : decode cX6_findMerges 44 = .ok (.invokevirtual 171, 3) := by decide +kernel
theorem dX6_findMerges_47 : decode cX6_findMerges 47 = .ok (.ifCond .ne 12, 3) := by decide +kernel
theorem dX6_findMerges_50 : decode cX6_findMerges 50 = .ok (.iload_n 3, 1) := by decide +kernel
theorem dX6_findMerges_51 : decode cX6_findMerges 51 = .ok (.iload 4, 2) := by decide +kernel
theorem dX6_findMerges_53 : decode cX6_findMerges 53 = .ok (.invokestatic 158, 3) := by decide +kernel
theorem dX6_findMerges_56 : decode cX6_findMerges 56 = .ok (.ifCond .eq 7, 3) := by decide +kernel
theorem dX6_findMerges_59 : decode cX6_findMerges 59 = .ok (.iconst 1, 1) := by decide +kernel
theorem dX6_findMerges_60 : decode cX6_findMerges 60 = .ok (.goto 4, 3) := by decide +kernel
theorem dX6_findMerges_63 : decode cX6_findMerges 63 = .ok (.iconst 0, 1) := by decide +kernel
theorem dX6_findMerges_64 : decode cX6_findMerges 64 = .ok (.istore 5, 2) := by decide +kernel
theorem dX6_findMerges_66 : decode cX6_findMerges 66 = .ok (.iload_n 2, 1) := by decide +kernel
theorem dX6_findMerges_67 : decode cX6_findMerges 67 = .ok (.iload 5, 2) := by decide +kernel
theorem dX6_findMerges_69 : decode cX6_findMerges 69 = .ok (.ifCond .eq 13, 3) := by decide +kernel
theorem dX6_findMerges_72 : decode cX6_findMerges 72 = .ok (.aload_n 0, 1) := by decide +kernel
theorem dX6_findMerges_73 : decode cX6_findMerges 73 = .ok (.getfield 56, 3) := by decide +kernel
theorem dX6_findMerges_76 : decode cX6_findMerges 76 = .ok (.iload 4, 2) := by decide +kernel
theorem dX6_findMerges_78 : decode cX6_findMerges 78 = .ok (.iaload, 1) := by decide +kernel
theorem dX6_findMerges_79 : decode cX6_findMerges 79 = .ok (.goto 4, 3) := by decide +kernel
theorem dX6_findMerges_82 : decode cX6_findMerges 82 = .ok (.iconst 0, 1) := by decide +kernel
theorem dX6_findMerges_83 : decode cX6_findMerges 83 = .ok (.ior, 1) := by decide +kernel
theorem dX6_findMerges_84 : decode cX6_findMerges 84 = .ok (.istore_n 2, 1) := by decide +kernel
theorem dX6_findMerges_85 : decode cX6_findMerges 85 = .ok (.iinc 4 1, 3) := by decide +kernel
theorem dX6_findMerges_88 : decode cX6_findMerges 88 = .ok (.goto (-74), 3) := by decide +kernel
theorem dX6_findMerges_91 : decode cX6_findMerges 91 = .ok (.goto (-87), 3) := by decide +kernel
theorem dX6_findMerges_94 : decode cX6_findMerges 94 = .ok (.aload_n 0, 1) := by decide +kernel
theorem dX6_findMerges_95 : decode cX6_findMerges 95 = .ok (.getfield 62, 3) := by decide +kernel
theorem dX6_findMerges_98 : decode cX6_findMerges 98 = .ok (.iload_n 1, 1) := by decide +kernel
theorem dX6_findMerges_99 : decode cX6_findMerges 99 = .ok (.iload_n 2, 1) := by decide +kernel
theorem dX6_findMerges_100 : decode cX6_findMerges 100 = .ok (.iastore, 1) := by decide +kernel
theorem dX6_findMerges_101 : decode cX6_findMerges 101 = .ok (.aload_n 0, 1) := by decide +kernel
theorem dX6_findMerges_102 : decode cX6_findMerges 102 = .ok (.getfield 65, 3) := by decide +kernel
theorem dX6_findMerges_105 : decode cX6_findMerges 105 = .ok (.iload_n 1, 1) := by decide +kernel
theorem dX6_findMerges_106 : decode cX6_findMerges 106 = .ok (.iload_n 2, 1) := by decide +kernel
theorem dX6_findMerges_107 : decode cX6_findMerges 107 = .ok (.aload_n 0, 1) := by decide +kernel
theorem dX6_findMerges_108 : decode cX6_findMerges 108 = .ok (.getfield 59, 3) := by decide +kernel
theorem dX6_findMerges_111 : decode cX6_findMerges 111 = .ok (.iload_n 1, 1) := by decide +kernel
theorem dX6_findMerges_112 : decode cX6_findMerges 112 = .ok (.iaload, 1) := by decide +kernel
theorem dX6_findMerges_113 : decode cX6_findMerges 113 = .ok (.iand, 1) := by decide +kernel
theorem dX6_findMerges_114 : decode cX6_findMerges 114 = .ok (.iastore, 1) := by decide +kernel
theorem dX6_findMerges_115 : decode cX6_findMerges 115 = .ok (.return_, 1) := by decide +kernel
theorem dX6_endSource_0 : decode cX6_endSource 0 = .ok (.aload_n 0, 1) := by decide +kernel
theorem dX6_endSource_1 : decode cX6_endSource 1 = .ok (.iload_n 1, 1) := by decide +kernel
theorem dX6_endSource_2 : decode cX6_endSource 2 = .ok (.iload_n 2, 1) := by decide +kernel
theorem dX6_endSource_3 : decode cX6_endSource 3 = .ok (.aload_n 0, 1) := by decide +kernel
theorem dX6_endSource_4 : decode cX6_endSource 4 = .ok (.getfield 13, 3) := by decide +kernel
theorem dX6_endSource_7 : decode cX6_endSource 7 = .ok (.iload_n 1, 1) := by decide +kernel
theorem dX6_endSource_8 : decode cX6_endSource 8 = .ok (.iaload, 1) := by decide +kernel
theorem dX6_endSource_9 : decode cX6_endSource 9 = .ok (.invokevirtual 164, 3) := by decide +kernel
theorem dX6_endSource_12 : decode cX6_endSource 12 = .ok (.istore 4, 2) := by decide +kernel
theorem dX6_endSource_14 : decode cX6_endSource 14 = .ok (.iload 4, 2) := by decide +kernel
theorem dX6_endSource_16 : decode cX6_endSource 16 = .ok (.ifCond .ge 7, 3) := by decide +kernel
theorem dX6_endSource_19 : decode cX6_endSource 19 = .ok (.iload_n 3, 1) := by decide +kernel
theorem dX6_endSource_20 : decode cX6_endSource 20 = .ok (.goto 10, 3) := by decide +kernel
theorem dX6_endSource_23 : decode cX6_endSource 23 = .ok (.bipush 10, 2) := by decide +kernel
theorem dX6_endSource_25 : decode cX6_endSource 25 = .ok (.iload_n 1, 1) := by decide +kernel
theorem dX6_endSource_26 : decode cX6_endSource 26 = .ok (.imul, 1) := by decide +kernel
theorem dX6_endSource_27 : decode cX6_endSource 27 = .ok (.iload 4, 2) := by decide +kernel
theorem dX6_endSource_29 : decode cX6_endSource 29 = .ok (.iadd, 1) := by decide +kernel
theorem dX6_endSource_30 : decode cX6_endSource 30 = .ok (.ireturn, 1) := by decide +kernel
theorem dX6_beginSource_0 : decode cX6_beginSource 0 = .ok (.aload_n 0, 1) := by decide +kernel
theorem dX6_beginSource_1 : decode cX6_beginSource 1 = .ok (.getfield 65, 3) := by decide +kernel
theorem dX6_beginSource_4 : decode cX6_beginSource 4 = .ok (.iload_n 2, 1) := by decide +kernel
theorem dX6_beginSource_5 : decode cX6_beginSource 5 = .ok (.iaload, 1) := by decide +kernel
theorem dX6_beginSource_6 : decode cX6_beginSource 6 = .ok (.iload_n 1, 1) := by decide +kernel
theorem dX6_beginSource_7 : decode cX6_beginSource 7 = .ok (.invokestatic 158, 3) := by decide +kernel
theorem dX6_beginSource_10 : decode cX6_beginSource 10 = .ok (.ifCond .eq 9, 3) := by decide +kernel
theorem dX6_beginSource_13 : decode cX6_beginSource 13 = .ok (.sipush 1000, 3) := by decide +kernel
theorem dX6_beginSource_16 : decode cX6_beginSource 16 = .ok (.iload_n 1, 1) := by decide +kernel
theorem dX6_beginSource_17 : decode cX6_beginSource 17 = .ok (.iadd, 1) := by decide +kernel
theorem dX6_beginSource_18 : decode cX6_beginSource 18 = .ok (.ireturn, 1) := by decide +kernel
theorem dX6_beginSource_19 : decode cX6_beginSource 19 = .ok (.iload_n 1, 1) := by decide +kernel
theorem dX6_beginSource_20 : decode cX6_beginSource 20 = .ok (.ifCond .ne 7, 3) := by decide +kernel
theorem dX6_beginSource_23 : decode cX6_beginSource 23 = .ok (.sipush 2000, 3) := by decide +kernel
theorem dX6_beginSource_26 : decode cX6_beginSource 26 = .ok (.ireturn, 1) := by decide +kernel
theorem dX6_beginSource_27 : decode cX6_beginSource 27 = .ok (.aload_n 0, 1) := by decide +kernel
theorem dX6_beginSource_28 : decode cX6_beginSource 28 = .ok (.aload_n 0, 1) := by decide +kernel
theorem dX6_beginSource_29 : decode cX6_beginSource 29 = .ok (.getfield 53, 3) := by decide +kernel
theorem dX6_beginSource_32 : decode cX6_beginSource 32 = .ok (.iload_n 1, 1) := by decide +kernel
theorem dX6_beginSource_33 : decode cX6_beginSource 33 = .ok (.iaload, 1) := by decide +kernel
theorem dX6_beginSource_34 : decode cX6_beginSource 34 = .ok (.iload_n 2, 1) := by decide +kernel
theorem dX6_beginSource_35 : decode cX6_beginSource 35 = .ok (.aload_n 0, 1) := by decide +kernel
theorem dX6_beginSource_36 : decode cX6_beginSource 36 = .ok (.aload_n 0, 1) := by decide +kernel
theorem dX6_beginSource_37 : decode cX6_beginSource 37 = .ok (.getfield 53, 3) := by decide +kernel
theorem dX6_beginSource_40 : decode cX6_beginSource 40 = .ok (.iload_n 1, 1) := by decide +kernel
theorem dX6_beginSource_41 : decode cX6_beginSource 41 = .ok (.iaload, 1) := by decide +kernel
theorem dX6_beginSource_42 : decode cX6_beginSource 42 = .ok (.iload_n 2, 1) := by decide +kernel
theorem dX6_beginSource_43 : decode cX6_beginSource 43 = .ok (.invokevirtual 174, 3) := by decide +kernel
theorem dX6_beginSource_46 : decode cX6_beginSource 46 = .ok (.invokevirtual 177, 3) := by decide +kernel
theorem dX6_beginSource_49 : decode cX6_beginSource 49 = .ok (.ireturn, 1) := by decide +kernel
theorem dX6_analyze_0 : decode cX6_analyze 0 = .ok (.aload_n 0, 1) := by decide +kernel
theorem dX6_analyze_1 : decode cX6_analyze 1 = .ok (.invokevirtual 180, 3) := by decide +kernel
theorem dX6_analyze_4 : decode cX6_analyze 4 = .ok (.aload_n 0, 1) := by decide +kernel
theorem dX6_analyze_5 : decode cX6_analyze 5 = .ok (.invokevirtual 183, 3) := by decide +kernel
theorem dX6_analyze_8 : decode cX6_analyze 8 = .ok (.aload_n 0, 1) := by decide +kernel
theorem dX6_analyze_9 : decode cX6_analyze 9 = .ok (.invokevirtual 186, 3) := by decide +kernel
theorem dX6_analyze_12 : decode cX6_analyze 12 = .ok (.iconst 0, 1) := by decide +kernel
theorem dX6_analyze_13 : decode cX6_analyze 13 = .ok (.istore_n 1, 1) := by decide +kernel
theorem dX6_analyze_14 : decode cX6_analyze 14 = .ok (.iload_n 1, 1) := by decide +kernel
theorem dX6_analyze_15 : decode cX6_analyze 15 = .ok (.iconst 4, 1) := by decide +kernel
theorem dX6_analyze_16 : decode cX6_analyze 16 = .ok (.if_icmp .ge 82, 3) := by decide +kernel
theorem dX6_analyze_19 : decode cX6_analyze 19 = .ok (.aload_n 0, 1) := by decide +kernel
theorem dX6_analyze_20 : decode cX6_analyze 20 = .ok (.iload_n 1, 1) := by decide +kernel
theorem dX6_analyze_21 : decode cX6_analyze 21 = .ok (.invokevirtual 189, 3) := by decide +kernel
theorem dX6_analyze_24 : decode cX6_analyze 24 = .ok (.aload_n 0, 1) := by decide +kernel
theorem dX6_analyze_25 : decode cX6_analyze 25 = .ok (.iload_n 1, 1) := by decide +kernel
theorem dX6_analyze_26 : decode cX6_analyze 26 = .ok (.invokevirtual 193, 3) := by decide +kernel
theorem dX6_analyze_29 : decode cX6_analyze 29 = .ok (.iconst 0, 1) := by decide +kernel
theorem dX6_analyze_30 : decode cX6_analyze 30 = .ok (.istore_n 2, 1) := by decide +kernel
theorem dX6_analyze_31 : decode cX6_analyze 31 = .ok (.iload_n 2, 1) := by decide +kernel
theorem dX6_analyze_32 : decode cX6_analyze 32 = .ok (.aload_n 0, 1) := by decide +kernel
theorem dX6_analyze_33 : decode cX6_analyze 33 = .ok (.getfield 7, 3) := by decide +kernel
theorem dX6_analyze_36 : decode cX6_analyze 36 = .ok (.if_icmp .ge 56, 3) := by decide +kernel
theorem dX6_analyze_39 : decode cX6_analyze 39 = .ok (.aload_n 0, 1) := by decide +kernel
theorem dX6_analyze_40 : decode cX6_analyze 40 = .ok (.getfield 155, 3) := by decide +kernel
theorem dX6_analyze_43 : decode cX6_analyze 43 = .ok (.iload_n 2, 1) := by decide +kernel
theorem dX6_analyze_44 : decode cX6_analyze 44 = .ok (.invokestatic 158, 3) := by decide +kernel
theorem dX6_analyze_47 : decode cX6_analyze 47 = .ok (.ifCond .eq 39, 3) := by decide +kernel
theorem dX6_analyze_50 : decode cX6_analyze 50 = .ok (.aload_n 0, 1) := by decide +kernel
theorem dX6_analyze_51 : decode cX6_analyze 51 = .ok (.getfield 68, 3) := by decide +kernel
theorem dX6_analyze_54 : decode cX6_analyze 54 = .ok (.iload_n 2, 1) := by decide +kernel
theorem dX6_analyze_55 : decode cX6_analyze 55 = .ok (.aaload, 1) := by decide +kernel
theorem dX6_analyze_56 : decode cX6_analyze 56 = .ok (.iload_n 1, 1) := by decide +kernel
theorem dX6_analyze_57 : decode cX6_analyze 57 = .ok (.aload_n 0, 1) := by decide +kernel
theorem dX6_analyze_58 : decode cX6_analyze 58 = .ok (.iload_n 2, 1) := by decide +kernel
theorem dX6_analyze_59 : decode cX6_analyze 59 = .ok (.iload_n 1, 1) := by decide +kernel
theorem dX6_analyze_60 : decode cX6_analyze 60 = .ok (.invokevirtual 174, 3) := by decide +kernel
theorem dX6_analyze_63 : decode cX6_analyze 63 = .ok (.iastore, 1) := by decide +kernel
theorem dX6_analyze_64 : decode cX6_analyze 64 = .ok (.aload_n 0, 1) := by decide +kernel
theorem dX6_analyze_65 : decode cX6_analyze 65 = .ok (.getfield 71, 3) := by decide +kernel
theorem dX6_analyze_68 : decode cX6_analyze 68 = .ok (.iload_n 2, 1) := by decide +kernel
theorem dX6_analyze_69 : decode cX6_analyze 69 = .ok (.aaload, 1) := by decide +kernel
theorem dX6_analyze_70 : decode cX6_analyze 70 = .ok (.iload_n 1, 1) := by decide +kernel
theorem dX6_analyze_71 : decode cX6_analyze 71 = .ok (.aload_n 0, 1) := by decide +kernel
theorem dX6_analyze_72 : decode cX6_analyze 72 = .ok (.iload_n 2, 1) := by decide +kernel
theorem dX6_analyze_73 : decode cX6_analyze 73 = .ok (.iload_n 1, 1) := by decide +kernel
theorem dX6_analyze_74 : decode cX6_analyze 74 = .ok (.aload_n 0, 1) := by decide +kernel
theorem dX6_analyze_75 : decode cX6_analyze 75 = .ok (.getfield 68, 3) := by decide +kernel
theorem dX6_analyze_78 : decode cX6_analyze 78 = .ok (.iload_n 2, 1) := by decide +kernel
theorem dX6_analyze_79 : decode cX6_analyze 79 = .ok (.aaload, 1) := by decide +kernel
theorem dX6_analyze_80 : decode cX6_analyze 80 = .ok (.iload_n 1, 1) := by decide +kernel
theorem dX6_analyze_81 : decode cX6_analyze 81 = .ok (.iaload, 1) := by decide +kernel
theorem dX6_analyze_82 : decode cX6_analyze 82 = .ok (.invokevirtual 177, 3) := by decide +kernel
theorem dX6_analyze_85 : decode cX6_analyze 85 = .ok (.iastore, 1) := by decide +kernel
theorem dX6_analyze_86 : decode cX6_analyze 86 = .ok (.iinc 2 1, 3) := by decide +kernel
theorem dX6_analyze_89 : decode cX6_analyze 89 = .ok (.goto (-58), 3) := by decide +kernel
theorem dX6_analyze_92 : decode cX6_analyze 92 = .ok (.iinc 1 1, 3) := by decide +kernel
theorem dX6_analyze_95 : decode cX6_analyze 95 = .ok (.goto (-81), 3) := by decide +kernel
theorem dX6_analyze_98 : decode cX6_analyze 98 = .ok (.return_, 1) := by decide +kernel
theorem dX6_isUnreached_0 : decode cX6_isUnreached 0 = .ok (.aload_n 0, 1) := by decide +kernel
theorem dX6_isUnreached_1 : decode cX6_isUnreached 1 = .ok (.invokevirtual 196, 3) := by decide +kernel
theorem dX6_isUnreached_4 : decode cX6_isUnreached 4 = .ok (.aload_n 0, 1) := by decide +kernel
theorem dX6_isUnreached_5 : decode cX6_isUnreached 5 = .ok (.getfield 155, 3) := by decide +kernel
theorem dX6_isUnreached_8 : decode cX6_isUnreached 8 = .ok (.iload_n 1, 1) := by decide +kernel
theorem dX6_isUnreached_9 : decode cX6_isUnreached 9 = .ok (.invokestatic 158, 3) := by decide +kernel
theorem dX6_isUnreached_12 : decode cX6_isUnreached 12 = .ok (.ifCond .ne 7, 3) := by decide +kernel
theorem dX6_isUnreached_15 : decode cX6_isUnreached 15 = .ok (.iconst 1, 1) := by decide +kernel
theorem dX6_isUnreached_16 : decode cX6_isUnreached 16 = .ok (.goto 4, 3) := by decide +kernel
theorem dX6_isUnreached_19 : decode cX6_isUnreached 19 = .ok (.iconst 0, 1) := by decide +kernel
theorem dX6_isUnreached_20 : decode cX6_isUnreached 20 = .ok (.ireturn, 1) := by decide +kernel
theorem dX6_isReachable_0 : decode cX6_isReachable 0 = .ok (.aload_n 0, 1) := by decide +kernel
theorem dX6_isReachable_1 : decode cX6_isReachable 1 = .ok (.iconst 1, 1) := by decide +kernel
theorem dX6_isReachable_2 : decode cX6_isReachable 2 = .ok (.aload_n 0, 1) := by decide +kernel
theorem dX6_isReachable_3 : decode cX6_isReachable 3 = .ok (.iload_n 1, 1) := by decide +kernel
theorem dX6_isReachable_4 : decode cX6_isReachable 4 = .ok (.invokevirtual 144, 3) := by decide +kernel
theorem dX6_isReachable_7 : decode cX6_isReachable 7 = .ok (.ifCond .ne 7, 3) := by decide +kernel
theorem dX6_isReachable_10 : decode cX6_isReachable 10 = .ok (.iconst 1, 1) := by decide +kernel
theorem dX6_isReachable_11 : decode cX6_isReachable 11 = .ok (.goto 4, 3) := by decide +kernel
theorem dX6_isReachable_14 : decode cX6_isReachable 14 = .ok (.iconst 0, 1) := by decide +kernel
theorem dX6_isReachable_15 : decode cX6_isReachable 15 = .ok (.invokevirtual 100, 3) := by decide +kernel
theorem dX6_isReachable_18 : decode cX6_isReachable 18 = .ok (.ifCond .ne 15, 3) := by decide +kernel
theorem dX6_isReachable_21 : decode cX6_isReachable 21 = .ok (.aload_n 0, 1) := by decide +kernel
theorem dX6_isReachable_22 : decode cX6_isReachable 22 = .ok (.iload_n 1, 1) := by decide +kernel
theorem dX6_isReachable_23 : decode cX6_isReachable 23 = .ok (.invokevirtual 199, 3) := by decide +kernel
theorem dX6_isReachable_26 : decode cX6_isReachable 26 = .ok (.ifCond .ne 7, 3) := by decide +kernel
theorem dX6_isReachable_29 : decode cX6_isReachable 29 = .ok (.iconst 1, 1) := by decide +kernel
theorem dX6_isReachable_30 : decode cX6_isReachable 30 = .ok (.goto 4, 3) := by decide +kernel
theorem dX6_isReachable_33 : decode cX6_isReachable 33 = .ok (.iconst 0, 1) := by decide +kernel
theorem dX6_isReachable_34 : decode cX6_isReachable 34 = .ok (.ireturn, 1) := by decide +kernel
theorem dX6_predecessors_0 : decode cX6_predecessors 0 = .ok (.aload_n 0, 1) := by decide +kernel
theorem dX6_predecessors_1 : decode cX6_predecessors 1 = .ok (.iconst 1, 1) := by decide +kernel
theorem dX6_predecessors_2 : decode cX6_predecessors 2 = .ok (.aload_n 0, 1) := by decide +kernel
theorem dX6_predecessors_3 : decode cX6_predecessors 3 = .ok (.iload_n 1, 1) := by decide +kernel
theorem dX6_predecessors_4 : decode cX6_predecessors 4 = .ok (.invokevirtual 144, 3) := by decide +kernel
theorem dX6_predecessors_7 : decode cX6_predecessors 7 = .ok (.ifCond .ne 7, 3) := by decide +kernel
theorem dX6_predecessors_10 : decode cX6_predecessors 10 = .ok (.iconst 1, 1) := by decide +kernel
theorem dX6_predecessors_11 : decode cX6_predecessors 11 = .ok (.goto 4, 3) := by decide +kernel
theorem dX6_predecessors_14 : decode cX6_predecessors 14 = .ok (.iconst 0, 1) := by decide +kernel
theorem dX6_predecessors_15 : decode cX6_predecessors 15 = .ok (.invokevirtual 100, 3) := by decide +kernel
theorem dX6_predecessors_18 : decode cX6_predecessors 18 = .ok (.ifCond .ne 16, 3) := by decide +kernel
theorem dX6_predecessors_21 : decode cX6_predecessors 21 = .ok (.aload_n 0, 1) := by decide +kernel
theorem dX6_predecessors_22 : decode cX6_predecessors 22 = .ok (.iconst 2, 1) := by decide +kernel
theorem dX6_predecessors_23 : decode cX6_predecessors 23 = .ok (.aload_n 0, 1) := by decide +kernel
theorem dX6_predecessors_24 : decode cX6_predecessors 24 = .ok (.iload_n 1, 1) := by decide +kernel
theorem dX6_predecessors_25 : decode cX6_predecessors 25 = .ok (.invokevirtual 199, 3) := by decide +kernel
theorem dX6_predecessors_28 : decode cX6_predecessors 28 = .ok (.invokevirtual 100, 3) := by decide +kernel
theorem dX6_predecessors_31 : decode cX6_predecessors 31 = .ok (.ifCond .eq 7, 3) := by decide +kernel
theorem dX6_predecessors_34 : decode cX6_predecessors 34 = .ok (.iconst 0, 1) := by decide +kernel
theorem dX6_predecessors_35 : decode cX6_predecessors 35 = .ok (.goto 9, 3) := by decide +kernel
theorem dX6_predecessors_38 : decode cX6_predecessors 38 = .ok (.aload_n 0, 1) := by decide +kernel
theorem dX6_predecessors_39 : decode cX6_predecessors 39 = .ok (.getfield 47, 3) := by decide +kernel
theorem dX6_predecessors_42 : decode cX6_predecessors 42 = .ok (.iload_n 1, 1) := by decide +kernel
theorem dX6_predecessors_43 : decode cX6_predecessors 43 = .ok (.iaload, 1) := by decide +kernel
theorem dX6_predecessors_44 : decode cX6_predecessors 44 = .ok (.ireturn, 1) := by decide +kernel
theorem dX6_dominates_0 : decode cX6_dominates 0 = .ok (.aload_n 0, 1) := by decide +kernel
theorem dX6_dominates_1 : decode cX6_dominates 1 = .ok (.iconst 1, 1) := by decide +kernel
theorem dX6_dominates_2 : decode cX6_dominates 2 = .ok (.aload_n 0, 1) := by decide +kernel
theorem dX6_dominates_3 : decode cX6_dominates 3 = .ok (.iload_n 1, 1) := by decide +kernel
theorem dX6_dominates_4 : decode cX6_dominates 4 = .ok (.invokevirtual 144, 3) := by decide +kernel
theorem dX6_dominates_7 : decode cX6_dominates 7 = .ok (.ifCond .eq 11, 3) := by decide +kernel
theorem dX6_dominates_10 : decode cX6_dominates 10 = .ok (.aload_n 0, 1) := by decide +kernel
theorem dX6_dominates_11 : decode cX6_dominates 11 = .ok (.iload_n 2, 1) := by decide +kernel
theorem dX6_dominates_12 : decode cX6_dominates 12 = .ok (.invokevirtual 144, 3) := by decide +kernel
theorem dX6_dominates_15 : decode cX6_dominates 15 = .ok (.ifCond .ne 7, 3) := by decide +kernel
theorem dX6_dominates_18 : decode cX6_dominates 18 = .ok (.iconst 1, 1) := by decide +kernel
theorem dX6_dominates_19 : decode cX6_dominates 19 = .ok (.goto 4, 3) := by decide +kernel
theorem dX6_dominates_22 : decode cX6_dominates 22 = .ok (.iconst 0, 1) := by decide +kernel
theorem dX6_dominates_23 : decode cX6_dominates 23 = .ok (.invokevirtual 100, 3) := by decide +kernel
theorem dX6_dominates_26 : decode cX6_dominates 26 = .ok (.ifCond .ne 32, 3) := by decide +kernel
theorem dX6_dominates_29 : decode cX6_dominates 29 = .ok (.aload_n 0, 1) := by decide +kernel
theorem dX6_dominates_30 : decode cX6_dominates 30 = .ok (.iconst 2, 1) := by decide +kernel
theorem dX6_dominates_31 : decode cX6_dominates 31 = .ok (.aload_n 0, 1) := by decide +kernel
theorem dX6_dominates_32 : decode cX6_dominates 32 = .ok (.iload_n 1, 1) := by decide +kernel
theorem dX6_dominates_33 : decode cX6_dominates 33 = .ok (.invokevirtual 199, 3) := by decide +kernel
theorem dX6_dominates_36 : decode cX6_dominates 36 = .ok (.ifCond .ne 11, 3) := by decide +kernel
theorem dX6_dominates_39 : decode cX6_dominates 39 = .ok (.aload_n 0, 1) := by decide +kernel
theorem dX6_dominates_40 : decode cX6_dominates 40 = .ok (.iload_n 2, 1) := by decide +kernel
theorem dX6_dominates_41 : decode cX6_dominates 41 = .ok (.invokevirtual 199, 3) := by decide +kernel
theorem dX6_dominates_44 : decode cX6_dominates 44 = .ok (.ifCond .eq 7, 3) := by decide +kernel
theorem dX6_dominates_47 : decode cX6_dominates 47 = .ok (.iconst 1, 1) := by decide +kernel
theorem dX6_dominates_48 : decode cX6_dominates 48 = .ok (.goto 4, 3) := by decide +kernel
theorem dX6_dominates_51 : decode cX6_dominates 51 = .ok (.iconst 0, 1) := by decide +kernel
theorem dX6_dominates_52 : decode cX6_dominates 52 = .ok (.invokevirtual 100, 3) := by decide +kernel
theorem dX6_dominates_55 : decode cX6_dominates 55 = .ok (.ifCond .eq 5, 3) := by decide +kernel
theorem dX6_dominates_58 : decode cX6_dominates 58 = .ok (.iconst 0, 1) := by decide +kernel
theorem dX6_dominates_59 : decode cX6_dominates 59 = .ok (.ireturn, 1) := by decide +kernel
theorem dX6_dominates_60 : decode cX6_dominates 60 = .ok (.aload_n 0, 1) := by decide +kernel
theorem dX6_dominates_61 : decode cX6_dominates 61 = .ok (.iload_n 1, 1) := by decide +kernel
theorem dX6_dominates_62 : decode cX6_dominates 62 = .ok (.iload_n 2, 1) := by decide +kernel
theorem dX6_dominates_63 : decode cX6_dominates 63 = .ok (.invokevirtual 161, 3) := by decide +kernel
theorem dX6_dominates_66 : decode cX6_dominates 66 = .ok (.ireturn, 1) := by decide +kernel
theorem dX6_parent_0 : decode cX6_parent 0 = .ok (.aload_n 0, 1) := by decide +kernel
theorem dX6_parent_1 : decode cX6_parent 1 = .ok (.iconst 1, 1) := by decide +kernel
theorem dX6_parent_2 : decode cX6_parent 2 = .ok (.aload_n 0, 1) := by decide +kernel
theorem dX6_parent_3 : decode cX6_parent 3 = .ok (.iload_n 1, 1) := by decide +kernel
theorem dX6_parent_4 : decode cX6_parent 4 = .ok (.invokevirtual 144, 3) := by decide +kernel
theorem dX6_parent_7 : decode cX6_parent 7 = .ok (.ifCond .ne 7, 3) := by decide +kernel
theorem dX6_parent_10 : decode cX6_parent 10 = .ok (.iconst 1, 1) := by decide +kernel
theorem dX6_parent_11 : decode cX6_parent 11 = .ok (.goto 4, 3) := by decide +kernel
theorem dX6_parent_14 : decode cX6_parent 14 = .ok (.iconst 0, 1) := by decide +kernel
theorem dX6_parent_15 : decode cX6_parent 15 = .ok (.invokevirtual 100, 3) := by decide +kernel
theorem dX6_parent_18 : decode cX6_parent 18 = .ok (.ifCond .ne 33, 3) := by decide +kernel
theorem dX6_parent_21 : decode cX6_parent 21 = .ok (.aload_n 0, 1) := by decide +kernel
theorem dX6_parent_22 : decode cX6_parent 22 = .ok (.iconst 2, 1) := by decide +kernel
theorem dX6_parent_23 : decode cX6_parent 23 = .ok (.aload_n 0, 1) := by decide +kernel
theorem dX6_parent_24 : decode cX6_parent 24 = .ok (.iload_n 1, 1) := by decide +kernel
theorem dX6_parent_25 : decode cX6_parent 25 = .ok (.invokevirtual 199, 3) := by decide +kernel
theorem dX6_parent_28 : decode cX6_parent 28 = .ok (.invokevirtual 100, 3) := by decide +kernel
theorem dX6_parent_31 : decode cX6_parent 31 = .ok (.ifCond .ne 20, 3) := by decide +kernel
theorem dX6_parent_34 : decode cX6_parent 34 = .ok (.aload_n 0, 1) := by decide +kernel
theorem dX6_parent_35 : decode cX6_parent 35 = .ok (.iconst 3, 1) := by decide +kernel
theorem dX6_parent_36 : decode cX6_parent 36 = .ok (.iload_n 1, 1) := by decide +kernel
theorem dX6_parent_37 : decode cX6_parent 37 = .ok (.ifCond .ne 7, 3) := by decide +kernel
theorem dX6_parent_40 : decode cX6_parent 40 = .ok (.iconst 1, 1) := by decide +kernel
theorem dX6_parent_41 : decode cX6_parent 41 = .ok (.goto 4, 3) := by decide +kernel
theorem dX6_parent_44 : decode cX6_parent 44 = .ok (.iconst 0, 1) := by decide +kernel
theorem dX6_parent_45 : decode cX6_parent 45 = .ok (.invokevirtual 100, 3) := by decide +kernel
theorem dX6_parent_48 : decode cX6_parent 48 = .ok (.ifCond .eq 7, 3) := by decide +kernel
theorem dX6_parent_51 : decode cX6_parent 51 = .ok (.iconst 0, 1) := by decide +kernel
theorem dX6_parent_52 : decode cX6_parent 52 = .ok (.goto 9, 3) := by decide +kernel
theorem dX6_parent_55 : decode cX6_parent 55 = .ok (.aload_n 0, 1) := by decide +kernel
theorem dX6_parent_56 : decode cX6_parent 56 = .ok (.getfield 53, 3) := by decide +kernel
theorem dX6_parent_59 : decode cX6_parent 59 = .ok (.iload_n 1, 1) := by decide +kernel
theorem dX6_parent_60 : decode cX6_parent 60 = .ok (.iaload, 1) := by decide +kernel
theorem dX6_parent_61 : decode cX6_parent 61 = .ok (.ireturn, 1) := by decide +kernel
theorem dX6_frontier_0 : decode cX6_frontier 0 = .ok (.aload_n 0, 1) := by decide +kernel
theorem dX6_frontier_1 : decode cX6_frontier 1 = .ok (.iconst 1, 1) := by decide +kernel
theorem dX6_frontier_2 : decode cX6_frontier 2 = .ok (.aload_n 0, 1) := by decide +kernel
theorem dX6_frontier_3 : decode cX6_frontier 3 = .ok (.iload_n 1, 1) := by decide +kernel
theorem dX6_frontier_4 : decode cX6_frontier 4 = .ok (.invokevirtual 144, 3) := by decide +kernel
theorem dX6_frontier_7 : decode cX6_frontier 7 = .ok (.ifCond .ne 7, 3) := by decide +kernel
theorem dX6_frontier_10 : decode cX6_frontier 10 = .ok (.iconst 1, 1) := by decide +kernel
theorem dX6_frontier_11 : decode cX6_frontier 11 = .ok (.goto 4, 3) := by decide +kernel
theorem dX6_frontier_14 : decode cX6_frontier 14 = .ok (.iconst 0, 1) := by decide +kernel
theorem dX6_frontier_15 : decode cX6_frontier 15 = .ok (.invokevirtual 100, 3) := by decide +kernel
theorem dX6_frontier_18 : decode cX6_frontier 18 = .ok (.ifCond .ne 16, 3) := by decide +kernel
theorem dX6_frontier_21 : decode cX6_frontier 21 = .ok (.aload_n 0, 1) := by decide +kernel
theorem dX6_frontier_22 : decode cX6_frontier 22 = .ok (.iconst 2, 1) := by decide +kernel
theorem dX6_frontier_23 : decode cX6_frontier 23 = .ok (.aload_n 0, 1) := by decide +kernel
theorem dX6_frontier_24 : decode cX6_frontier 24 = .ok (.iload_n 1, 1) := by decide +kernel
theorem dX6_frontier_25 : decode cX6_frontier 25 = .ok (.invokevirtual 199, 3) := by decide +kernel
theorem dX6_frontier_28 : decode cX6_frontier 28 = .ok (.invokevirtual 100, 3) := by decide +kernel
theorem dX6_frontier_31 : decode cX6_frontier 31 = .ok (.ifCond .eq 7, 3) := by decide +kernel
theorem dX6_frontier_34 : decode cX6_frontier 34 = .ok (.iconst 0, 1) := by decide +kernel
theorem dX6_frontier_35 : decode cX6_frontier 35 = .ok (.goto 9, 3) := by decide +kernel
theorem dX6_frontier_38 : decode cX6_frontier 38 = .ok (.aload_n 0, 1) := by decide +kernel
theorem dX6_frontier_39 : decode cX6_frontier 39 = .ok (.getfield 56, 3) := by decide +kernel
theorem dX6_frontier_42 : decode cX6_frontier 42 = .ok (.iload_n 1, 1) := by decide +kernel
theorem dX6_frontier_43 : decode cX6_frontier 43 = .ok (.iaload, 1) := by decide +kernel
theorem dX6_frontier_44 : decode cX6_frontier 44 = .ok (.ireturn, 1) := by decide +kernel
theorem dX6_failsAt_0 : decode cX6_failsAt 0 = .ok (.aload_n 0, 1) := by decide +kernel
theorem dX6_failsAt_1 : decode cX6_failsAt 1 = .ok (.iconst 1, 1) := by decide +kernel
theorem dX6_failsAt_2 : decode cX6_failsAt 2 = .ok (.aload_n 0, 1) := by decide +kernel
theorem dX6_failsAt_3 : decode cX6_failsAt 3 = .ok (.iload_n 1, 1) := by decide +kernel
theorem dX6_failsAt_4 : decode cX6_failsAt 4 = .ok (.invokevirtual 144, 3) := by decide +kernel
theorem dX6_failsAt_7 : decode cX6_failsAt 7 = .ok (.ifCond .eq 10, 3) := by decide +kernel
theorem dX6_failsAt_10 : decode cX6_failsAt 10 = .ok (.iload_n 2, 1) := by decide +kernel
theorem dX6_failsAt_11 : decode cX6_failsAt 11 = .ok (.invokestatic 202, 3) := by decide +kernel
theorem dX6_failsAt_14 : decode cX6_failsAt 14 = .ok (.ifCond .ne 7, 3) := by decide +kernel
theorem dX6_failsAt_17 : decode cX6_failsAt 17 = .ok (.iconst 1, 1) := by decide +kernel
theorem dX6_failsAt_18 : decode cX6_failsAt 18 = .ok (.goto 4, 3) := by decide +kernel
theorem dX6_failsAt_21 : decode cX6_failsAt 21 = .ok (.iconst 0, 1) := by decide +kernel
theorem dX6_failsAt_22 : decode cX6_failsAt 22 = .ok (.invokevirtual 100, 3) := by decide +kernel
theorem dX6_failsAt_25 : decode cX6_failsAt 25 = .ok (.ifCond .ne 16, 3) := by decide +kernel
theorem dX6_failsAt_28 : decode cX6_failsAt 28 = .ok (.aload_n 0, 1) := by decide +kernel
theorem dX6_failsAt_29 : decode cX6_failsAt 29 = .ok (.iconst 2, 1) := by decide +kernel
theorem dX6_failsAt_30 : decode cX6_failsAt 30 = .ok (.aload_n 0, 1) := by decide +kernel
theorem dX6_failsAt_31 : decode cX6_failsAt 31 = .ok (.iload_n 1, 1) := by decide +kernel
theorem dX6_failsAt_32 : decode cX6_failsAt 32 = .ok (.invokevirtual 199, 3) := by decide +kernel
theorem dX6_failsAt_35 : decode cX6_failsAt 35 = .ok (.invokevirtual 100, 3) := by decide +kernel
theorem dX6_failsAt_38 : decode cX6_failsAt 38 = .ok (.ifCond .eq 7, 3) := by decide +kernel
theorem dX6_failsAt_41 : decode cX6_failsAt 41 = .ok (.iconst 1, 1) := by decide +kernel
theorem dX6_failsAt_42 : decode cX6_failsAt 42 = .ok (.goto 4, 3) := by decide +kernel
theorem dX6_failsAt_45 : decode cX6_failsAt 45 = .ok (.iconst 0, 1) := by decide +kernel
theorem dX6_failsAt_46 : decode cX6_failsAt 46 = .ok (.ireturn, 1) := by decide +kernel
theorem dX6_isLive_0 : decode cX6_isLive 0 = .ok (.aload_n 0, 1) := by decide +kernel
theorem dX6_isLive_1 : decode cX6_isLive 1 = .ok (.iload_n 1, 1) := by decide +kernel
theorem dX6_isLive_2 : decode cX6_isLive 2 = .ok (.iload_n 2, 1) := by decide +kernel
theorem dX6_isLive_3 : decode cX6_isLive 3 = .ok (.invokevirtual 205, 3) := by decide +kernel
theorem dX6_isLive_6 : decode cX6_isLive 6 = .ok (.ifCond .ne 20, 3) := by decide +kernel
theorem dX6_isLive_9 : decode cX6_isLive 9 = .ok (.aload_n 0, 1) := by decide +kernel
theorem dX6_isLive_10 : decode cX6_isLive 10 = .ok (.getfield 59, 3) := by decide +kernel
theorem dX6_isLive_13 : decode cX6_isLive 13 = .ok (.iload_n 2, 1) := by decide +kernel
theorem dX6_isLive_14 : decode cX6_isLive 14 = .ok (.iaload, 1) := by decide +kernel
theorem dX6_isLive_15 : decode cX6_isLive 15 = .ok (.iload_n 1, 1) := by decide +kernel
theorem dX6_isLive_16 : decode cX6_isLive 16 = .ok (.invokestatic 158, 3) := by decide +kernel
theorem dX6_isLive_19 : decode cX6_isLive 19 = .ok (.ifCond .eq 7, 3) := by decide +kernel
theorem dX6_isLive_22 : decode cX6_isLive 22 = .ok (.iconst 1, 1) := by decide +kernel
theorem dX6_isLive_23 : decode cX6_isLive 23 = .ok (.goto 4, 3) := by decide +kernel
theorem dX6_isLive_26 : decode cX6_isLive 26 = .ok (.iconst 0, 1) := by decide +kernel
theorem dX6_isLive_27 : decode cX6_isLive 27 = .ok (.ireturn, 1) := by decide +kernel
theorem dX6_minimalMerges_0 : decode cX6_minimalMerges 0 = .ok (.aload_n 0, 1) := by decide +kernel
theorem dX6_minimalMerges_1 : decode cX6_minimalMerges 1 = .ok (.iconst 1, 1) := by decide +kernel
theorem dX6_minimalMerges_2 : decode cX6_minimalMerges 2 = .ok (.iload_n 1, 1) := by decide +kernel
theorem dX6_minimalMerges_3 : decode cX6_minimalMerges 3 = .ok (.invokestatic 202, 3) := by decide +kernel
theorem dX6_minimalMerges_6 : decode cX6_minimalMerges 6 = .ok (.ifCond .ne 7, 3) := by decide +kernel
theorem dX6_minimalMerges_9 : decode cX6_minimalMerges 9 = .ok (.iconst 1, 1) := by decide +kernel
theorem dX6_minimalMerges_10 : decode cX6_minimalMerges 10 = .ok (.goto 4, 3) := by decide +kernel
theorem dX6_minimalMerges_13 : decode cX6_minimalMerges 13 = .ok (.iconst 0, 1) := by decide +kernel
theorem dX6_minimalMerges_14 : decode cX6_minimalMerges 14 = .ok (.invokevirtual 100, 3) := by decide +kernel
theorem dX6_minimalMerges_17 : decode cX6_minimalMerges 17 = .ok (.ifCond .eq 5, 3) := by decide +kernel
theorem dX6_minimalMerges_20 : decode cX6_minimalMerges 20 = .ok (.iconst 0, 1) := by decide +kernel
theorem dX6_minimalMerges_21 : decode cX6_minimalMerges 21 = .ok (.ireturn, 1) := by decide +kernel
theorem dX6_minimalMerges_22 : decode cX6_minimalMerges 22 = .ok (.aload_n 0, 1) := by decide +kernel
theorem dX6_minimalMerges_23 : decode cX6_minimalMerges 23 = .ok (.invokevirtual 196, 3) := by decide +kernel
theorem dX6_minimalMerges_26 : decode cX6_minimalMerges 26 = .ok (.aload_n 0, 1) := by decide +kernel
theorem dX6_minimalMerges_27 : decode cX6_minimalMerges 27 = .ok (.getfield 62, 3) := by decide +kernel
theorem dX6_minimalMerges_30 : decode cX6_minimalMerges 30 = .ok (.iload_n 1, 1) := by decide +kernel
theorem dX6_minimalMerges_31 : decode cX6_minimalMerges 31 = .ok (.iaload, 1) := by decide +kernel
theorem dX6_minimalMerges_32 : decode cX6_minimalMerges 32 = .ok (.ireturn, 1) := by decide +kernel
theorem dX6_merges_0 : decode cX6_merges 0 = .ok (.aload_n 0, 1) := by decide +kernel
theorem dX6_merges_1 : decode cX6_merges 1 = .ok (.iconst 1, 1) := by decide +kernel
theorem dX6_merges_2 : decode cX6_merges 2 = .ok (.iload_n 1, 1) := by decide +kernel
theorem dX6_merges_3 : decode cX6_merges 3 = .ok (.invokestatic 202, 3) := by decide +kernel
theorem dX6_merges_6 : decode cX6_merges 6 = .ok (.ifCond .ne 7, 3) := by decide +kernel
theorem dX6_merges_9 : decode cX6_merges 9 = .ok (.iconst 1, 1) := by decide +kernel
theorem dX6_merges_10 : decode cX6_merges 10 = .ok (.goto 4, 3) := by decide +kernel
theorem dX6_merges_13 : decode cX6_merges 13 = .ok (.iconst 0, 1) := by decide +kernel
theorem dX6_merges_14 : decode cX6_merges 14 = .ok (.invokevirtual 100, 3) := by decide +kernel
theorem dX6_merges_17 : decode cX6_merges 17 = .ok (.ifCond .eq 5, 3) := by decide +kernel
theorem dX6_merges_20 : decode cX6_merges 20 = .ok (.iconst 0, 1) := by decide +kernel
theorem dX6_merges_21 : decode cX6_merges 21 = .ok (.ireturn, 1) := by decide +kernel
theorem dX6_merges_22 : decode cX6_merges 22 = .ok (.aload_n 0, 1) := by decide +kernel
theorem dX6_merges_23 : decode cX6_merges 23 = .ok (.invokevirtual 196, 3) := by decide +kernel
theorem dX6_merges_26 : decode cX6_merges 26 = .ok (.aload_n 0, 1) := by decide +kernel
theorem dX6_merges_27 : decode cX6_merges 27 = .ok (.getfield 65, 3) := by decide +kernel
theorem dX6_merges_30 : decode cX6_merges 30 = .ok (.iload_n 1, 1) := by decide +kernel
theorem dX6_merges_31 : decode cX6_merges 31 = .ok (.iaload, 1) := by decide +kernel
theorem dX6_merges_32 : decode cX6_merges 32 = .ok (.ireturn, 1) := by decide +kernel
theorem dX6_countBits_0 : decode cX6_countBits 0 = .ok (.iconst 0, 1) := by decide +kernel
theorem dX6_countBits_1 : decode cX6_countBits 1 = .ok (.istore_n 1, 1) := by decide +kernel
theorem dX6_countBits_2 : decode cX6_countBits 2 = .ok (.iload_n 0, 1) := by decide +kernel
theorem dX6_countBits_3 : decode cX6_countBits 3 = .ok (.istore_n 2, 1) := by decide +kernel
theorem dX6_countBits_4 : decode cX6_countBits 4 = .ok (.iload_n 2, 1) := by decide +kernel
theorem dX6_countBits_5 : decode cX6_countBits 5 = .ok (.ifCond .eq 15, 3) := by decide +kernel
theorem dX6_countBits_8 : decode cX6_countBits 8 = .ok (.iinc 1 1, 3) := by decide +kernel
theorem dX6_countBits_11 : decode cX6_countBits 11 = .ok (.iload_n 2, 1) := by decide +kernel
theorem dX6_countBits_12 : decode cX6_countBits 12 = .ok (.iload_n 2, 1) := by decide +kernel
theorem dX6_countBits_13 : decode cX6_countBits 13 = .ok (.iconst 1, 1) := by decide +kernel
theorem dX6_countBits_14 : decode cX6_countBits 14 = .ok (.isub, 1) := by decide +kernel
theorem dX6_countBits_15 : decode cX6_countBits 15 = .ok (.iand, 1) := by decide +kernel
theorem dX6_countBits_16 : decode cX6_countBits 16 = .ok (.istore_n 2, 1) := by decide +kernel
theorem dX6_countBits_17 : decode cX6_countBits 17 = .ok (.goto (-13), 3) := by decide +kernel
theorem dX6_countBits_20 : decode cX6_countBits 20 = .ok (.iload_n 1, 1) := by decide +kernel
theorem dX6_countBits_21 : decode cX6_countBits 21 = .ok (.ireturn, 1) := by decide +kernel
theorem dX6_countMerges_0 : decode cX6_countMerges 0 = .ok (.iconst 0, 1) := by decide +kernel
theorem dX6_countMerges_1 : decode cX6_countMerges 1 = .ok (.istore_n 1, 1) := by decide +kernel
theorem dX6_countMerges_2 : decode cX6_countMerges 2 = .ok (.iconst 0, 1) := by decide +kernel
theorem dX6_countMerges_3 : decode cX6_countMerges 3 = .ok (.istore_n 2, 1) := by decide +kernel
theorem dX6_countMerges_4 : decode cX6_countMerges 4 = .ok (.iload_n 2, 1) := by decide +kernel
theorem dX6_countMerges_5 : decode cX6_countMerges 5 = .ok (.iconst 4, 1) := by decide +kernel
theorem dX6_countMerges_6 : decode cX6_countMerges 6 = .ok (.if_icmp .ge 21, 3) := by decide +kernel
theorem dX6_countMerges_9 : decode cX6_countMerges 9 = .ok (.iload_n 1, 1) := by decide +kernel
theorem dX6_countMerges_10 : decode cX6_countMerges 10 = .ok (.aload_n 0, 1) := by decide +kernel
theorem dX6_countMerges_11 : decode cX6_countMerges 11 = .ok (.getfield 65, 3) := by decide +kernel
theorem dX6_countMerges_14 : decode cX6_countMerges 14 = .ok (.iload_n 2, 1) := by decide +kernel
theorem dX6_countMerges_15 : decode cX6_countMerges 15 = .ok (.iaload, 1) := by decide +kernel
theorem dX6_countMerges_16 : decode cX6_countMerges 16 = .ok (.invokestatic 208, 3) := by decide +kernel
theorem dX6_countMerges_19 : decode cX6_countMerges 19 = .ok (.iadd, 1) := by decide +kernel
theorem dX6_countMerges_20 : decode cX6_countMerges 20 = .ok (.istore_n 1, 1) := by decide +kernel
theorem dX6_countMerges_21 : decode cX6_countMerges 21 = .ok (.iinc 2 1, 3) := by decide +kernel
theorem dX6_countMerges_24 : decode cX6_countMerges 24 = .ok (.goto (-20), 3) := by decide +kernel
theorem dX6_countMerges_27 : decode cX6_countMerges 27 = .ok (.iload_n 1, 1) := by decide +kernel
theorem dX6_countMerges_28 : decode cX6_countMerges 28 = .ok (.ireturn, 1) := by decide +kernel
theorem dX6_mergeCount_0 : decode cX6_mergeCount 0 = .ok (.aload_n 0, 1) := by decide +kernel
theorem dX6_mergeCount_1 : decode cX6_mergeCount 1 = .ok (.iconst 0, 1) := by decide +kernel
theorem dX6_mergeCount_2 : decode cX6_mergeCount 2 = .ok (.putfield 83, 3) := by decide +kernel
theorem dX6_mergeCount_5 : decode cX6_mergeCount 5 = .ok (.aload_n 0, 1) := by decide +kernel
theorem dX6_mergeCount_6 : decode cX6_mergeCount 6 = .ok (.invokevirtual 196, 3) := by decide +kernel
theorem dX6_mergeCount_9 : decode cX6_mergeCount 9 = .ok (.aload_n 0, 1) := by decide +kernel
theorem dX6_mergeCount_10 : decode cX6_mergeCount 10 = .ok (.invokevirtual 212, 3) := by decide +kernel
theorem dX6_mergeCount_13 : decode cX6_mergeCount 13 = .ok (.ireturn, 1) := by decide +kernel
theorem dX6_source_0 : decode cX6_source 0 = .ok (.aload_n 0, 1) := by decide +kernel
theorem dX6_source_1 : decode cX6_source 1 = .ok (.iload_n 1, 1) := by decide +kernel
theorem dX6_source_2 : decode cX6_source 2 = .ok (.iload_n 2, 1) := by decide +kernel
theorem dX6_source_3 : decode cX6_source 3 = .ok (.invokevirtual 205, 3) := by decide +kernel
theorem dX6_source_6 : decode cX6_source 6 = .ok (.ifCond .eq 7, 3) := by decide +kernel
theorem dX6_source_9 : decode cX6_source 9 = .ok (.iconst 0, 1) := by decide +kernel
theorem dX6_source_10 : decode cX6_source 10 = .ok (.goto 26, 3) := by decide +kernel
theorem dX6_source_13 : decode cX6_source 13 = .ok (.iload_n 3, 1) := by decide +kernel
theorem dX6_source_14 : decode cX6_source 14 = .ok (.ifCond .eq 14, 3) := by decide +kernel
theorem dX6_source_17 : decode cX6_source 17 = .ok (.aload_n 0, 1) := by decide +kernel
theorem dX6_source_18 : decode cX6_source 18 = .ok (.getfield 71, 3) := by decide +kernel
theorem dX6_source_21 : decode cX6_source 21 = .ok (.iload_n 1, 1) := by decide +kernel
theorem dX6_source_22 : decode cX6_source 22 = .ok (.aaload, 1) := by decide +kernel
theorem dX6_source_23 : decode cX6_source 23 = .ok (.iload_n 2, 1) := by decide +kernel
theorem dX6_source_24 : decode cX6_source 24 = .ok (.iaload, 1) := by decide +kernel
theorem dX6_source_25 : decode cX6_source 25 = .ok (.goto 11, 3) := by decide +kernel
theorem dX6_source_28 : decode cX6_source 28 = .ok (.aload_n 0, 1) := by decide +kernel
theorem dX6_source_29 : decode cX6_source 29 = .ok (.getfield 68, 3) := by decide +kernel
theorem dX6_source_32 : decode cX6_source 32 = .ok (.iload_n 1, 1) := by decide +kernel
theorem dX6_source_33 : decode cX6_source 33 = .ok (.aaload, 1) := by decide +kernel
theorem dX6_source_34 : decode cX6_source 34 = .ok (.iload_n 2, 1) := by decide +kernel
theorem dX6_source_35 : decode cX6_source 35 = .ok (.iaload, 1) := by decide +kernel
theorem dX6_source_36 : decode cX6_source 36 = .ok (.ireturn, 1) := by decide +kernel
theorem dX6_useSource_0 : decode cX6_useSource 0 = .ok (.aload_n 0, 1) := by decide +kernel
theorem dX6_useSource_1 : decode cX6_useSource 1 = .ok (.getfield 22, 3) := by decide +kernel
theorem dX6_useSource_4 : decode cX6_useSource 4 = .ok (.iload_n 1, 1) := by decide +kernel
theorem dX6_useSource_5 : decode cX6_useSource 5 = .ok (.aaload, 1) := by decide +kernel
theorem dX6_useSource_6 : decode cX6_useSource 6 = .ok (.iload_n 2, 1) := by decide +kernel
theorem dX6_useSource_7 : decode cX6_useSource 7 = .ok (.iaload, 1) := by decide +kernel
theorem dX6_useSource_8 : decode cX6_useSource 8 = .ok (.bipush 10, 2) := by decide +kernel
theorem dX6_useSource_10 : decode cX6_useSource 10 = .ok (.isub, 1) := by decide +kernel
theorem dX6_useSource_11 : decode cX6_useSource 11 = .ok (.istore_n 3, 1) := by decide +kernel
theorem dX6_useSource_12 : decode cX6_useSource 12 = .ok (.aload_n 0, 1) := by decide +kernel
theorem dX6_useSource_13 : decode cX6_useSource 13 = .ok (.iload_n 1, 1) := by decide +kernel
theorem dX6_useSource_14 : decode cX6_useSource 14 = .ok (.iload_n 3, 1) := by decide +kernel
theorem dX6_useSource_15 : decode cX6_useSource 15 = .ok (.iload_n 2, 1) := by decide +kernel
theorem dX6_useSource_16 : decode cX6_useSource 16 = .ok (.invokevirtual 164, 3) := by decide +kernel
theorem dX6_useSource_19 : decode cX6_useSource 19 = .ok (.istore 4, 2) := by decide +kernel
theorem dX6_useSource_21 : decode cX6_useSource 21 = .ok (.iload 4, 2) := by decide +kernel
theorem dX6_useSource_23 : decode cX6_useSource 23 = .ok (.ifCond .ge 14, 3) := by decide +kernel
theorem dX6_useSource_26 : decode cX6_useSource 26 = .ok (.aload_n 0, 1) := by decide +kernel
theorem dX6_useSource_27 : decode cX6_useSource 27 = .ok (.getfield 68, 3) := by decide +kernel
theorem dX6_useSource_30 : decode cX6_useSource 30 = .ok (.iload_n 1, 1) := by decide +kernel
theorem dX6_useSource_31 : decode cX6_useSource 31 = .ok (.aaload, 1) := by decide +kernel
theorem dX6_useSource_32 : decode cX6_useSource 32 = .ok (.iload_n 3, 1) := by decide +kernel
theorem dX6_useSource_33 : decode cX6_useSource 33 = .ok (.iaload, 1) := by decide +kernel
theorem dX6_useSource_34 : decode cX6_useSource 34 = .ok (.goto 10, 3) := by decide +kernel
theorem dX6_useSource_37 : decode cX6_useSource 37 = .ok (.bipush 10, 2) := by decide +kernel
theorem dX6_useSource_39 : decode cX6_useSource 39 = .ok (.iload_n 1, 1) := by decide +kernel
theorem dX6_useSource_40 : decode cX6_useSource 40 = .ok (.imul, 1) := by decide +kernel
theorem dX6_useSource_41 : decode cX6_useSource 41 = .ok (.iload 4, 2) := by decide +kernel
theorem dX6_useSource_43 : decode cX6_useSource 43 = .ok (.iadd, 1) := by decide +kernel
theorem dX6_useSource_44 : decode cX6_useSource 44 = .ok (.ireturn, 1) := by decide +kernel
theorem dX6_sourceOfUse_0 : decode cX6_sourceOfUse 0 = .ok (.aload_n 0, 1) := by decide +kernel
theorem dX6_sourceOfUse_1 : decode cX6_sourceOfUse 1 = .ok (.iconst 1, 1) := by decide +kernel
theorem dX6_sourceOfUse_2 : decode cX6_sourceOfUse 2 = .ok (.aload_n 0, 1) := by decide +kernel
theorem dX6_sourceOfUse_3 : decode cX6_sourceOfUse 3 = .ok (.iload_n 1, 1) := by decide +kernel
theorem dX6_sourceOfUse_4 : decode cX6_sourceOfUse 4 = .ok (.iload_n 2, 1) := by decide +kernel
theorem dX6_sourceOfUse_5 : decode cX6_sourceOfUse 5 = .ok (.invokevirtual 147, 3) := by decide +kernel
theorem dX6_sourceOfUse_8 : decode cX6_sourceOfUse 8 = .ok (.ifCond .ne 7, 3) := by decide +kernel
theorem dX6_sourceOfUse_11 : decode cX6_sourceOfUse 11 = .ok (.iconst 1, 1) := by decide +kernel
theorem dX6_sourceOfUse_12 : decode cX6_sourceOfUse 12 = .ok (.goto 4, 3) := by decide +kernel
theorem dX6_sourceOfUse_15 : decode cX6_sourceOfUse 15 = .ok (.iconst 0, 1) := by decide +kernel
theorem dX6_sourceOfUse_16 : decode cX6_sourceOfUse 16 = .ok (.invokevirtual 100, 3) := by decide +kernel
theorem dX6_sourceOfUse_19 : decode cX6_sourceOfUse 19 = .ok (.ifCond .ne 42, 3) := by decide +kernel
theorem dX6_sourceOfUse_22 : decode cX6_sourceOfUse 22 = .ok (.aload_n 0, 1) := by decide +kernel
theorem dX6_sourceOfUse_23 : decode cX6_sourceOfUse 23 = .ok (.iconst 2, 1) := by decide +kernel
theorem dX6_sourceOfUse_24 : decode cX6_sourceOfUse 24 = .ok (.aload_n 0, 1) := by decide +kernel
theorem dX6_sourceOfUse_25 : decode cX6_sourceOfUse 25 = .ok (.iload_n 1, 1) := by decide +kernel
theorem dX6_sourceOfUse_26 : decode cX6_sourceOfUse 26 = .ok (.invokevirtual 199, 3) := by decide +kernel
theorem dX6_sourceOfUse_29 : decode cX6_sourceOfUse 29 = .ok (.invokevirtual 100, 3) := by decide +kernel
theorem dX6_sourceOfUse_32 : decode cX6_sourceOfUse 32 = .ok (.ifCond .ne 29, 3) := by decide +kernel
theorem dX6_sourceOfUse_35 : decode cX6_sourceOfUse 35 = .ok (.aload_n 0, 1) := by decide +kernel
theorem dX6_sourceOfUse_36 : decode cX6_sourceOfUse 36 = .ok (.iconst 3, 1) := by decide +kernel
theorem dX6_sourceOfUse_37 : decode cX6_sourceOfUse 37 = .ok (.aload_n 0, 1) := by decide +kernel
theorem dX6_sourceOfUse_38 : decode cX6_sourceOfUse 38 = .ok (.getfield 22, 3) := by decide +kernel
theorem dX6_sourceOfUse_41 : decode cX6_sourceOfUse 41 = .ok (.iload_n 1, 1) := by decide +kernel
theorem dX6_sourceOfUse_42 : decode cX6_sourceOfUse 42 = .ok (.aaload, 1) := by decide +kernel
theorem dX6_sourceOfUse_43 : decode cX6_sourceOfUse 43 = .ok (.iload_n 2, 1) := by decide +kernel
theorem dX6_sourceOfUse_44 : decode cX6_sourceOfUse 44 = .ok (.iaload, 1) := by decide +kernel
theorem dX6_sourceOfUse_45 : decode cX6_sourceOfUse 45 = .ok (.bipush 10, 2) := by decide +kernel
theorem dX6_sourceOfUse_47 : decode cX6_sourceOfUse 47 = .ok (.if_icmp .ge 7, 3) := by decide +kernel
theorem dX6_sourceOfUse_50 : decode cX6_sourceOfUse 50 = .ok (.iconst 1, 1) := by decide +kernel
theorem dX6_sourceOfUse_51 : decode cX6_sourceOfUse 51 = .ok (.goto 4, 3) := by decide +kernel
theorem dX6_sourceOfUse_54 : decode cX6_sourceOfUse 54 = .ok (.iconst 0, 1) := by decide +kernel
theorem dX6_sourceOfUse_55 : decode cX6_sourceOfUse 55 = .ok (.invokevirtual 100, 3) := by decide +kernel
theorem dX6_sourceOfUse_58 : decode cX6_sourceOfUse 58 = .ok (.ifCond .eq 5, 3) := by decide +kernel
theorem dX6_sourceOfUse_61 : decode cX6_sourceOfUse 61 = .ok (.iconst 0, 1) := by decide +kernel
theorem dX6_sourceOfUse_62 : decode cX6_sourceOfUse 62 = .ok (.ireturn, 1) := by decide +kernel
theorem dX6_sourceOfUse_63 : decode cX6_sourceOfUse 63 = .ok (.aload_n 0, 1) := by decide +kernel
theorem dX6_sourceOfUse_64 : decode cX6_sourceOfUse 64 = .ok (.iload_n 1, 1) := by decide +kernel
theorem dX6_sourceOfUse_65 : decode cX6_sourceOfUse 65 = .ok (.iload_n 2, 1) := by decide +kernel
theorem dX6_sourceOfUse_66 : decode cX6_sourceOfUse 66 = .ok (.invokevirtual 216, 3) := by decide +kernel
theorem dX6_sourceOfUse_69 : decode cX6_sourceOfUse 69 = .ok (.ireturn, 1) := by decide +kernel
theorem dX6_operand_0 : decode cX6_operand 0 = .ok (.aload_n 0, 1) := by decide +kernel
theorem dX6_operand_1 : decode cX6_operand 1 = .ok (.iload_n 1, 1) := by decide +kernel
theorem dX6_operand_2 : decode cX6_operand 2 = .ok (.iload_n 2, 1) := by decide +kernel
theorem dX6_operand_3 : decode cX6_operand 3 = .ok (.invokevirtual 205, 3) := by decide +kernel
theorem dX6_operand_6 : decode cX6_operand 6 = .ok (.ifCond .eq 5, 3) := by decide +kernel
theorem dX6_operand_9 : decode cX6_operand 9 = .ok (.iconst 0, 1) := by decide +kernel
theorem dX6_operand_10 : decode cX6_operand 10 = .ok (.ireturn, 1) := by decide +kernel
theorem dX6_operand_11 : decode cX6_operand 11 = .ok (.aload_n 0, 1) := by decide +kernel
theorem dX6_operand_12 : decode cX6_operand 12 = .ok (.getfield 65, 3) := by decide +kernel
theorem dX6_operand_15 : decode cX6_operand 15 = .ok (.iload_n 2, 1) := by decide +kernel
theorem dX6_operand_16 : decode cX6_operand 16 = .ok (.iaload, 1) := by decide +kernel
theorem dX6_operand_17 : decode cX6_operand 17 = .ok (.iload_n 1, 1) := by decide +kernel
theorem dX6_operand_18 : decode cX6_operand 18 = .ok (.invokestatic 158, 3) := by decide +kernel
theorem dX6_operand_21 : decode cX6_operand 21 = .ok (.ifCond .eq 28, 3) := by decide +kernel
theorem dX6_operand_24 : decode cX6_operand 24 = .ok (.aload_n 0, 1) := by decide +kernel
theorem dX6_operand_25 : decode cX6_operand 25 = .ok (.iload_n 3, 1) := by decide +kernel
theorem dX6_operand_26 : decode cX6_operand 26 = .ok (.invokevirtual 144, 3) := by decide +kernel
theorem dX6_operand_29 : decode cX6_operand 29 = .ok (.ifCond .eq 20, 3) := by decide +kernel
theorem dX6_operand_32 : decode cX6_operand 32 = .ok (.aload_n 0, 1) := by decide +kernel
theorem dX6_operand_33 : decode cX6_operand 33 = .ok (.getfield 47, 3) := by decide +kernel
theorem dX6_operand_36 : decode cX6_operand 36 = .ok (.iload_n 1, 1) := by decide +kernel
theorem dX6_operand_37 : decode cX6_operand 37 = .ok (.iaload, 1) := by decide +kernel
theorem dX6_operand_38 : decode cX6_operand 38 = .ok (.iload_n 3, 1) := by decide +kernel
theorem dX6_operand_39 : decode cX6_operand 39 = .ok (.invokestatic 158, 3) := by decide +kernel
theorem dX6_operand_42 : decode cX6_operand 42 = .ok (.ifCond .eq 7, 3) := by decide +kernel
theorem dX6_operand_45 : decode cX6_operand 45 = .ok (.iconst 1, 1) := by decide +kernel
theorem dX6_operand_46 : decode cX6_operand 46 = .ok (.goto 4, 3) := by decide +kernel
theorem dX6_operand_49 : decode cX6_operand 49 = .ok (.iconst 0, 1) := by decide +kernel
theorem dX6_operand_50 : decode cX6_operand 50 = .ok (.istore 4, 2) := by decide +kernel
theorem dX6_operand_52 : decode cX6_operand 52 = .ok (.aload_n 0, 1) := by decide +kernel
theorem dX6_operand_53 : decode cX6_operand 53 = .ok (.iconst 3, 1) := by decide +kernel
theorem dX6_operand_54 : decode cX6_operand 54 = .ok (.iload 4, 2) := by decide +kernel
theorem dX6_operand_56 : decode cX6_operand 56 = .ok (.ifCond .ne 7, 3) := by decide +kernel
theorem dX6_operand_59 : decode cX6_operand 59 = .ok (.iconst 1, 1) := by decide +kernel
theorem dX6_operand_60 : decode cX6_operand 60 = .ok (.goto 4, 3) := by decide +kernel
theorem dX6_operand_63 : decode cX6_operand 63 = .ok (.iconst 0, 1) := by decide +kernel
theorem dX6_operand_64 : decode cX6_operand 64 = .ok (.invokevirtual 100, 3) := by decide +kernel
theorem dX6_operand_67 : decode cX6_operand 67 = .ok (.ifCond .eq 7, 3) := by decide +kernel
theorem dX6_operand_70 : decode cX6_operand 70 = .ok (.iconst 0, 1) := by decide +kernel
theorem dX6_operand_71 : decode cX6_operand 71 = .ok (.goto 11, 3) := by decide +kernel
theorem dX6_operand_74 : decode cX6_operand 74 = .ok (.aload_n 0, 1) := by decide +kernel
theorem dX6_operand_75 : decode cX6_operand 75 = .ok (.getfield 71, 3) := by decide +kernel
theorem dX6_operand_78 : decode cX6_operand 78 = .ok (.iload_n 3, 1) := by decide +kernel
theorem dX6_operand_79 : decode cX6_operand 79 = .ok (.aaload, 1) := by decide +kernel
theorem dX6_operand_80 : decode cX6_operand 80 = .ok (.iload_n 2, 1) := by decide +kernel
theorem dX6_operand_81 : decode cX6_operand 81 = .ok (.iaload, 1) := by decide +kernel
theorem dX6_operand_82 : decode cX6_operand 82 = .ok (.ireturn, 1) := by decide +kernel
theorem dX6_differentOperands_0 : decode cX6_differentOperands 0 = .ok (.aload_n 0, 1) := by decide +kernel
theorem dX6_differentOperands_1 : decode cX6_differentOperands 1 = .ok (.iload_n 1, 1) := by decide +kernel
theorem dX6_differentOperands_2 : decode cX6_differentOperands 2 = .ok (.iload_n 2, 1) := by decide +kernel
theorem dX6_differentOperands_3 : decode cX6_differentOperands 3 = .ok (.invokevirtual 205, 3) := by decide +kernel
theorem dX6_differentOperands_6 : decode cX6_differentOperands 6 = .ok (.ifCond .ne 29, 3) := by decide +kernel
theorem dX6_differentOperands_9 : decode cX6_differentOperands 9 = .ok (.aload_n 0, 1) := by decide +kernel
theorem dX6_differentOperands_10 : decode cX6_differentOperands 10 = .ok (.iconst 3, 1) := by decide +kernel
theorem dX6_differentOperands_11 : decode cX6_differentOperands 11 = .ok (.aload_n 0, 1) := by decide +kernel
theorem dX6_differentOperands_12 : decode cX6_differentOperands 12 = .ok (.getfield 65, 3) := by decide +kernel
theorem dX6_differentOperands_15 : decode cX6_differentOperands 15 = .ok (.iload_n 2, 1) := by decide +kernel
theorem dX6_differentOperands_16 : decode cX6_differentOperands 16 = .ok (.iaload, 1) := by decide +kernel
theorem dX6_differentOperands_17 : decode cX6_differentOperands 17 = .ok (.iload_n 1, 1) := by decide +kernel
theorem dX6_differentOperands_18 : decode cX6_differentOperands 18 = .ok (.invokestatic 158, 3) := by decide +kernel
theorem dX6_differentOperands_21 : decode cX6_differentOperands 21 = .ok (.ifCond .ne 7, 3) := by decide +kernel
theorem dX6_differentOperands_24 : decode cX6_differentOperands 24 = .ok (.iconst 1, 1) := by decide +kernel
theorem dX6_differentOperands_25 : decode cX6_differentOperands 25 = .ok (.goto 4, 3) := by decide +kernel
theorem dX6_differentOperands_28 : decode cX6_differentOperands 28 = .ok (.iconst 0, 1) := by decide +kernel
theorem dX6_differentOperands_29 : decode cX6_differentOperands 29 = .ok (.invokevirtual 100, 3) := by decide +kernel
theorem dX6_differentOperands_32 : decode cX6_differentOperands 32 = .ok (.ifCond .eq 5, 3) := by decide +kernel
theorem dX6_differentOperands_35 : decode cX6_differentOperands 35 = .ok (.iconst 0, 1) := by decide +kernel
theorem dX6_differentOperands_36 : decode cX6_differentOperands 36 = .ok (.ireturn, 1) := by decide +kernel
theorem dX6_differentOperands_37 : decode cX6_differentOperands 37 = .ok (.iconst 0, 1) := by decide +kernel
theorem dX6_differentOperands_38 : decode cX6_differentOperands 38 = .ok (.istore_n 3, 1) := by decide +kernel
theorem dX6_differentOperands_39 : decode cX6_differentOperands 39 = .ok (.iconst 0, 1) := by decide +kernel
theorem dX6_differentOperands_40 : decode cX6_differentOperands 40 = .ok (.istore 4, 2) := by decide +kernel
theorem dX6_differentOperands_42 : decode cX6_differentOperands 42 = .ok (.iload 4, 2) := by decide +kernel
theorem dX6_differentOperands_44 : decode cX6_differentOperands 44 = .ok (.aload_n 0, 1) := by decide +kernel
theorem dX6_differentOperands_45 : decode cX6_differentOperands 45 = .ok (.getfield 7, 3) := by decide +kernel
theorem dX6_differentOperands_48 : decode cX6_differentOperands 48 = .ok (.if_icmp .ge 96, 3) := by decide +kernel
theorem dX6_differentOperands_51 : decode cX6_differentOperands 51 = .ok (.aload_n 0, 1) := by decide +kernel
theorem dX6_differentOperands_52 : decode cX6_differentOperands 52 = .ok (.getfield 47, 3) := by decide +kernel
theorem dX6_differentOperands_55 : decode cX6_differentOperands 55 = .ok (.iload_n 1, 1) := by decide +kernel
theorem dX6_differentOperands_56 : decode cX6_differentOperands 56 = .ok (.iaload, 1) := by decide +kernel
theorem dX6_differentOperands_57 : decode cX6_differentOperands 57 = .ok (.iload 4, 2) := by decide +kernel
theorem dX6_differentOperands_59 : decode cX6_differentOperands 59 = .ok (.invokestatic 158, 3) := by decide +kernel
theorem dX6_differentOperands_62 : decode cX6_differentOperands 62 = .ok (.istore 5, 2) := by decide +kernel
theorem dX6_differentOperands_64 : decode cX6_differentOperands 64 = .ok (.iconst 0, 1) := by decide +kernel
theorem dX6_differentOperands_65 : decode cX6_differentOperands 65 = .ok (.istore 6, 2) := by decide +kernel
theorem dX6_differentOperands_67 : decode cX6_differentOperands 67 = .ok (.iload 6, 2) := by decide +kernel
theorem dX6_differentOperands_69 : decode cX6_differentOperands 69 = .ok (.iload 4, 2) := by decide +kernel
theorem dX6_differentOperands_71 : decode cX6_differentOperands 71 = .ok (.if_icmp .ge 54, 3) := by decide +kernel
theorem dX6_differentOperands_74 : decode cX6_differentOperands 74 = .ok (.iload 5, 2) := by decide +kernel
theorem dX6_differentOperands_76 : decode cX6_differentOperands 76 = .ok (.aload_n 0, 1) := by decide +kernel
theorem dX6_differentOperands_77 : decode cX6_differentOperands 77 = .ok (.getfield 47, 3) := by decide +kernel
theorem dX6_differentOperands_80 : decode cX6_differentOperands 80 = .ok (.iload_n 1, 1) := by decide +kernel
theorem dX6_differentOperands_81 : decode cX6_differentOperands 81 = .ok (.iaload, 1) := by decide +kernel
theorem dX6_differentOperands_82 : decode cX6_differentOperands 82 = .ok (.iload 6, 2) := by decide +kernel
theorem dX6_differentOperands_84 : decode cX6_differentOperands 84 = .ok (.invokestatic 158, 3) := by decide +kernel
theorem dX6_differentOperands_87 : decode cX6_differentOperands 87 = .ok (.ifCond .eq 24, 3) := by decide +kernel
theorem dX6_differentOperands_90 : decode cX6_differentOperands 90 = .ok (.aload_n 0, 1) := by decide +kernel
theorem dX6_differentOperands_91 : decode cX6_differentOperands 91 = .ok (.getfield 71, 3) := by decide +kernel
theorem dX6_differentOperands_94 : decode cX6_differentOperands 94 = .ok (.iload 6, 2) := by decide +kernel
theorem dX6_differentOperands_96 : decode cX6_differentOperands 96 = .ok (.aaload, 1) := by decide +kernel
theorem dX6_differentOperands_97 : decode cX6_differentOperands 97 = .ok (.iload_n 2, 1) := by decide +kernel
theorem dX6_differentOperands_98 : decode cX6_differentOperands 98 = .ok (.iaload, 1) := by decide +kernel
theorem dX6_differentOperands_99 : decode cX6_differentOperands 99 = .ok (.aload_n 0, 1) := by decide +kernel
theorem dX6_differentOperands_100 : decode cX6_differentOperands 100 = .ok (.getfield 71, 3) := by decide +kernel
theorem dX6_differentOperands_103 : decode cX6_differentOperands 103 = .ok (.iload 4, 2) := by decide +kernel
theorem dX6_differentOperands_105 : decode cX6_differentOperands 105 = .ok (.aaload, 1) := by decide +kernel
theorem dX6_differentOperands_106 : decode cX6_differentOperands 106 = .ok (.iload_n 2, 1) := by decide +kernel
theorem dX6_differentOperands_107 : decode cX6_differentOperands 107 = .ok (.iaload, 1) := by decide +kernel
theorem dX6_differentOperands_108 : decode cX6_differentOperands 108 = .ok (.if_icmp .eq 7, 3) := by decide +kernel
theorem dX6_differentOperands_111 : decode cX6_differentOperands 111 = .ok (.iconst 1, 1) := by decide +kernel
theorem dX6_differentOperands_112 : decode cX6_differentOperands 112 = .ok (.goto 4, 3) := by decide +kernel
theorem dX6_differentOperands_115 : decode cX6_differentOperands 115 = .ok (.iconst 0, 1) := by decide +kernel
theorem dX6_differentOperands_116 : decode cX6_differentOperands 116 = .ok (.iand, 1) := by decide +kernel
theorem dX6_differentOperands_117 : decode cX6_differentOperands 117 = .ok (.istore 5, 2) := by decide +kernel
theorem dX6_differentOperands_119 : decode cX6_differentOperands 119 = .ok (.iinc 6 1, 3) := by decide +kernel
theorem dX6_differentOperands_122 : decode cX6_differentOperands 122 = .ok (.goto (-55), 3) := by decide +kernel
theorem dX6_differentOperands_125 : decode cX6_differentOperands 125 = .ok (.iload_n 3, 1) := by decide +kernel
theorem dX6_differentOperands_126 : decode cX6_differentOperands 126 = .ok (.iload 5, 2) := by decide +kernel
theorem dX6_differentOperands_128 : decode cX6_differentOperands 128 = .ok (.ifCond .eq 7, 3) := by decide +kernel
theorem dX6_differentOperands_131 : decode cX6_differentOperands 131 = .ok (.iconst 1, 1) := by decide +kernel
theorem dX6_differentOperands_132 : decode cX6_differentOperands 132 = .ok (.goto 4, 3) := by decide +kernel
theorem dX6_differentOperands_135 : decode cX6_differentOperands 135 = .ok (.iconst 0, 1) := by decide +kernel
theorem dX6_differentOperands_136 : decode cX6_differentOperands 136 = .ok (.iadd, 1) := by decide +kernel
theorem dX6_differentOperands_137 : decode cX6_differentOperands 137 = .ok (.istore_n 3, 1) := by decide +kernel
theorem dX6_differentOperands_138 : decode cX6_differentOperands 138 = .ok (.iinc 4 1, 3) := by decide +kernel
theorem dX6_differentOperands_141 : decode cX6_differentOperands 141 = .ok (.goto (-99), 3) := by decide +kernel
theorem dX6_differentOperands_144 : decode cX6_differentOperands 144 = .ok (.iload_n 3, 1) := by decide +kernel
theorem dX6_differentOperands_145 : decode cX6_differentOperands 145 = .ok (.ireturn, 1) := by decide +kernel
theorem dX6_countUses_0 : decode cX6_countUses 0 = .ok (.iconst 0, 1) := by decide +kernel
theorem dX6_countUses_1 : decode cX6_countUses 1 = .ok (.istore_n 3, 1) := by decide +kernel
theorem dX6_countUses_2 : decode cX6_countUses 2 = .ok (.iconst 0, 1) := by decide +kernel
theorem dX6_countUses_3 : decode cX6_countUses 3 = .ok (.istore 4, 2) := by decide +kernel
theorem dX6_countUses_5 : decode cX6_countUses 5 = .ok (.iload 4, 2) := by decide +kernel
theorem dX6_countUses_7 : decode cX6_countUses 7 = .ok (.aload_n 0, 1) := by decide +kernel
theorem dX6_countUses_8 : decode cX6_countUses 8 = .ok (.getfield 7, 3) := by decide +kernel
theorem dX6_countUses_11 : decode cX6_countUses 11 = .ok (.if_icmp .ge 79, 3) := by decide +kernel
theorem dX6_countUses_14 : decode cX6_countUses 14 = .ok (.iconst 0, 1) := by decide +kernel
theorem dX6_countUses_15 : decode cX6_countUses 15 = .ok (.istore 5, 2) := by decide +kernel
theorem dX6_countUses_17 : decode cX6_countUses 17 = .ok (.iload 5, 2) := by decide +kernel
theorem dX6_countUses_19 : decode cX6_countUses 19 = .ok (.aload_n 0, 1) := by decide +kernel
theorem dX6_countUses_20 : decode cX6_countUses 20 = .ok (.getfield 13, 3) := by decide +kernel
theorem dX6_countUses_23 : decode cX6_countUses 23 = .ok (.iload 4, 2) := by decide +kernel
theorem dX6_countUses_25 : decode cX6_countUses 25 = .ok (.iaload, 1) := by decide +kernel
theorem dX6_countUses_26 : decode cX6_countUses 26 = .ok (.if_icmp .ge 58, 3) := by decide +kernel
theorem dX6_countUses_29 : decode cX6_countUses 29 = .ok (.aload_n 0, 1) := by decide +kernel
theorem dX6_countUses_30 : decode cX6_countUses 30 = .ok (.getfield 155, 3) := by decide +kernel
theorem dX6_countUses_33 : decode cX6_countUses 33 = .ok (.iload 4, 2) := by decide +kernel
theorem dX6_countUses_35 : decode cX6_countUses 35 = .ok (.invokestatic 158, 3) := by decide +kernel
theorem dX6_countUses_38 : decode cX6_countUses 38 = .ok (.ifCond .eq 46, 3) := by decide +kernel
theorem dX6_countUses_41 : decode cX6_countUses 41 = .ok (.iload_n 3, 1) := by decide +kernel
theorem dX6_countUses_42 : decode cX6_countUses 42 = .ok (.aload_n 0, 1) := by decide +kernel
theorem dX6_countUses_43 : decode cX6_countUses 43 = .ok (.getfield 22, 3) := by decide +kernel
theorem dX6_countUses_46 : decode cX6_countUses 46 = .ok (.iload 4, 2) := by decide +kernel
theorem dX6_countUses_48 : decode cX6_countUses 48 = .ok (.aaload, 1) := by decide +kernel
theorem dX6_countUses_49 : decode cX6_countUses 49 = .ok (.iload 5, 2) := by decide +kernel
theorem dX6_countUses_51 : decode cX6_countUses 51 = .ok (.iaload, 1) := by decide +kernel
theorem dX6_countUses_52 : decode cX6_countUses 52 = .ok (.bipush 10, 2) := by decide +kernel
theorem dX6_countUses_54 : decode cX6_countUses 54 = .ok (.iload_n 1, 1) := by decide +kernel
theorem dX6_countUses_55 : decode cX6_countUses 55 = .ok (.iadd, 1) := by decide +kernel
theorem dX6_countUses_56 : decode cX6_countUses 56 = .ok (.if_icmp .ne 19, 3) := by decide +kernel
theorem dX6_countUses_59 : decode cX6_countUses 59 = .ok (.aload_n 0, 1) := by decide +kernel
theorem dX6_countUses_60 : decode cX6_countUses 60 = .ok (.iload 4, 2) := by decide +kernel
theorem dX6_countUses_62 : decode cX6_countUses 62 = .ok (.iload 5, 2) := by decide +kernel
theorem dX6_countUses_64 : decode cX6_countUses 64 = .ok (.invokevirtual 216, 3) := by decide +kernel
theorem dX6_countUses_67 : decode cX6_countUses 67 = .ok (.iload_n 2, 1) := by decide +kernel
theorem dX6_countUses_68 : decode cX6_countUses 68 = .ok (.if_icmp .ne 7, 3) := by decide +kernel
theorem dX6_countUses_71 : decode cX6_countUses 71 = .ok (.iconst 1, 1) := by decide +kernel
theorem dX6_countUses_72 : decode cX6_countUses 72 = .ok (.goto 4, 3) := by decide +kernel
theorem dX6_countUses_75 : decode cX6_countUses 75 = .ok (.iconst 0, 1) := by decide +kernel
theorem dX6_countUses_76 : decode cX6_countUses 76 = .ok (.iadd, 1) := by decide +kernel
theorem dX6_countUses_77 : decode cX6_countUses 77 = .ok (.istore_n 3, 1) := by decide +kernel
theorem dX6_countUses_78 : decode cX6_countUses 78 = .ok (.iinc 5 1, 3) := by decide +kernel
theorem dX6_countUses_81 : decode cX6_countUses 81 = .ok (.goto (-64), 3) := by decide +kernel
theorem dX6_countUses_84 : decode cX6_countUses 84 = .ok (.iinc 4 1, 3) := by decide +kernel
theorem dX6_countUses_87 : decode cX6_countUses 87 = .ok (.goto (-82), 3) := by decide +kernel
theorem dX6_countUses_90 : decode cX6_countUses 90 = .ok (.iload_n 3, 1) := by decide +kernel
theorem dX6_countUses_91 : decode cX6_countUses 91 = .ok (.ireturn, 1) := by decide +kernel
theorem dX6_usesOf_0 : decode cX6_usesOf 0 = .ok (.aload_n 0, 1) := by decide +kernel
theorem dX6_usesOf_1 : decode cX6_usesOf 1 = .ok (.iconst 1, 1) := by decide +kernel
theorem dX6_usesOf_2 : decode cX6_usesOf 2 = .ok (.iload_n 1, 1) := by decide +kernel
theorem dX6_usesOf_3 : decode cX6_usesOf 3 = .ok (.invokestatic 202, 3) := by decide +kernel
theorem dX6_usesOf_6 : decode cX6_usesOf 6 = .ok (.ifCond .ne 7, 3) := by decide +kernel
theorem dX6_usesOf_9 : decode cX6_usesOf 9 = .ok (.iconst 1, 1) := by decide +kernel
theorem dX6_usesOf_10 : decode cX6_usesOf 10 = .ok (.goto 4, 3) := by decide +kernel
theorem dX6_usesOf_13 : decode cX6_usesOf 13 = .ok (.iconst 0, 1) := by decide +kernel
theorem dX6_usesOf_14 : decode cX6_usesOf 14 = .ok (.invokevirtual 100, 3) := by decide +kernel
theorem dX6_usesOf_17 : decode cX6_usesOf 17 = .ok (.ifCond .eq 5, 3) := by decide +kernel
theorem dX6_usesOf_20 : decode cX6_usesOf 20 = .ok (.iconst 0, 1) := by decide +kernel
theorem dX6_usesOf_21 : decode cX6_usesOf 21 = .ok (.ireturn, 1) := by decide +kernel
theorem dX6_usesOf_22 : decode cX6_usesOf 22 = .ok (.aload_n 0, 1) := by decide +kernel
theorem dX6_usesOf_23 : decode cX6_usesOf 23 = .ok (.invokevirtual 196, 3) := by decide +kernel
theorem dX6_usesOf_26 : decode cX6_usesOf 26 = .ok (.aload_n 0, 1) := by decide +kernel
theorem dX6_usesOf_27 : decode cX6_usesOf 27 = .ok (.iload_n 1, 1) := by decide +kernel
theorem dX6_usesOf_28 : decode cX6_usesOf 28 = .ok (.iload_n 2, 1) := by decide +kernel
theorem dX6_usesOf_29 : decode cX6_usesOf 29 = .ok (.invokevirtual 219, 3) := by decide +kernel
theorem dX6_usesOf_32 : decode cX6_usesOf 32 = .ok (.ireturn, 1) := by decide +kernel
theorem dX6_isOperand_0 : decode cX6_isOperand 0 = .ok (.iconst 0, 1) := by decide +kernel
theorem dX6_isOperand_1 : decode cX6_isOperand 1 = .ok (.istore_n 3, 1) := by decide +kernel
theorem dX6_isOperand_2 : decode cX6_isOperand 2 = .ok (.iload_n 3, 1) := by decide +kernel
theorem dX6_isOperand_3 : decode cX6_isOperand 3 = .ok (.aload_n 0, 1) := by decide +kernel
theorem dX6_isOperand_4 : decode cX6_isOperand 4 = .ok (.getfield 7, 3) := by decide +kernel
theorem dX6_isOperand_7 : decode cX6_isOperand 7 = .ok (.if_icmp .ge 69, 3) := by decide +kernel
theorem dX6_isOperand_10 : decode cX6_isOperand 10 = .ok (.iconst 0, 1) := by decide +kernel
theorem dX6_isOperand_11 : decode cX6_isOperand 11 = .ok (.istore 4, 2) := by decide +kernel
theorem dX6_isOperand_13 : decode cX6_isOperand 13 = .ok (.iload 4, 2) := by decide +kernel
theorem dX6_isOperand_15 : decode cX6_isOperand 15 = .ok (.aload_n 0, 1) := by decide +kernel
theorem dX6_isOperand_16 : decode cX6_isOperand 16 = .ok (.getfield 7, 3) := by decide +kernel
theorem dX6_isOperand_19 : decode cX6_isOperand 19 = .ok (.if_icmp .ge 51, 3) := by decide +kernel
theorem dX6_isOperand_22 : decode cX6_isOperand 22 = .ok (.aload_n 0, 1) := by decide +kernel
theorem dX6_isOperand_23 : decode cX6_isOperand 23 = .ok (.getfield 65, 3) := by decide +kernel
theorem dX6_isOperand_26 : decode cX6_isOperand 26 = .ok (.iload_n 1, 1) := by decide +kernel
theorem dX6_isOperand_27 : decode cX6_isOperand 27 = .ok (.iaload, 1) := by decide +kernel
theorem dX6_isOperand_28 : decode cX6_isOperand 28 = .ok (.iload_n 3, 1) := by decide +kernel
theorem dX6_isOperand_29 : decode cX6_isOperand 29 = .ok (.invokestatic 158, 3) := by decide +kernel
theorem dX6_isOperand_32 : decode cX6_isOperand 32 = .ok (.ifCond .eq 38, 3) := by decide +kernel
theorem dX6_isOperand_35 : decode cX6_isOperand 35 = .ok (.aload_n 0, 1) := by decide +kernel
theorem dX6_isOperand_36 : decode cX6_isOperand 36 = .ok (.getfield 47, 3) := by decide +kernel
theorem dX6_isOperand_39 : decode cX6_isOperand 39 = .ok (.iload_n 3, 1) := by decide +kernel
theorem dX6_isOperand_40 : decode cX6_isOperand 40 = .ok (.iaload, 1) := by decide +kernel
theorem dX6_isOperand_41 : decode cX6_isOperand 41 = .ok (.iload 4, 2) := by decide +kernel
theorem dX6_isOperand_43 : decode cX6_isOperand 43 = .ok (.invokestatic 158, 3) := by decide +kernel
theorem dX6_isOperand_46 : decode cX6_isOperand 46 = .ok (.ifCond .eq 18, 3) := by decide +kernel
theorem dX6_isOperand_49 : decode cX6_isOperand 49 = .ok (.aload_n 0, 1) := by decide +kernel
theorem dX6_isOperand_50 : decode cX6_isOperand 50 = .ok (.getfield 71, 3) := by decide +kernel
theorem dX6_isOperand_53 : decode cX6_isOperand 53 = .ok (.iload 4, 2) := by decide +kernel
theorem dX6_isOperand_55 : decode cX6_isOperand 55 = .ok (.aaload, 1) := by decide +kernel
theorem dX6_isOperand_56 : decode cX6_isOperand 56 = .ok (.iload_n 1, 1) := by decide +kernel
theorem dX6_isOperand_57 : decode cX6_isOperand 57 = .ok (.iaload, 1) := by decide +kernel
theorem dX6_isOperand_58 : decode cX6_isOperand 58 = .ok (.iload_n 2, 1) := by decide +kernel
theorem dX6_isOperand_59 : decode cX6_isOperand 59 = .ok (.if_icmp .ne 5, 3) := by decide +kernel
theorem dX6_isOperand_62 : decode cX6_isOperand 62 = .ok (.iconst 1, 1) := by decide +kernel
theorem dX6_isOperand_63 : decode cX6_isOperand 63 = .ok (.ireturn, 1) := by decide +kernel
theorem dX6_isOperand_64 : decode cX6_isOperand 64 = .ok (.iinc 4 1, 3) := by decide +kernel
theorem dX6_isOperand_67 : decode cX6_isOperand 67 = .ok (.goto (-54), 3) := by decide +kernel
theorem dX6_isOperand_70 : decode cX6_isOperand 70 = .ok (.iinc 3 1, 3) := by decide +kernel
theorem dX6_isOperand_73 : decode cX6_isOperand 73 = .ok (.goto (-71), 3) := by decide +kernel
theorem dX6_isOperand_76 : decode cX6_isOperand 76 = .ok (.iconst 0, 1) := by decide +kernel
theorem dX6_isOperand_77 : decode cX6_isOperand 77 = .ok (.ireturn, 1) := by decide +kernel
theorem dX6_unneeded_0 : decode cX6_unneeded 0 = .ok (.aload_n 0, 1) := by decide +kernel
theorem dX6_unneeded_1 : decode cX6_unneeded 1 = .ok (.iconst 0, 1) := by decide +kernel
theorem dX6_unneeded_2 : decode cX6_unneeded 2 = .ok (.putfield 83, 3) := by decide +kernel
theorem dX6_unneeded_5 : decode cX6_unneeded 5 = .ok (.aload_n 0, 1) := by decide +kernel
theorem dX6_unneeded_6 : decode cX6_unneeded 6 = .ok (.invokevirtual 196, 3) := by decide +kernel
theorem dX6_unneeded_9 : decode cX6_unneeded 9 = .ok (.iconst 0, 1) := by decide +kernel
theorem dX6_unneeded_10 : decode cX6_unneeded 10 = .ok (.istore_n 1, 1) := by decide +kernel
theorem dX6_unneeded_11 : decode cX6_unneeded 11 = .ok (.iconst 0, 1) := by decide +kernel
theorem dX6_unneeded_12 : decode cX6_unneeded 12 = .ok (.istore_n 2, 1) := by decide +kernel
theorem dX6_unneeded_13 : decode cX6_unneeded 13 = .ok (.iload_n 2, 1) := by decide +kernel
theorem dX6_unneeded_14 : decode cX6_unneeded 14 = .ok (.aload_n 0, 1) := by decide +kernel
theorem dX6_unneeded_15 : decode cX6_unneeded 15 = .ok (.getfield 7, 3) := by decide +kernel
theorem dX6_unneeded_18 : decode cX6_unneeded 18 = .ok (.if_icmp .ge 105, 3) := by decide +kernel
theorem dX6_unneeded_21 : decode cX6_unneeded 21 = .ok (.iconst 0, 1) := by decide +kernel
theorem dX6_unneeded_22 : decode cX6_unneeded 22 = .ok (.istore_n 3, 1) := by decide +kernel
theorem dX6_unneeded_23 : decode cX6_unneeded 23 = .ok (.iload_n 3, 1) := by decide +kernel
theorem dX6_unneeded_24 : decode cX6_unneeded 24 = .ok (.aload_n 0, 1) := by decide +kernel
theorem dX6_unneeded_25 : decode cX6_unneeded 25 = .ok (.getfield 13, 3) := by decide +kernel
theorem dX6_unneeded_28 : decode cX6_unneeded 28 = .ok (.iload_n 2, 1) := by decide +kernel
theorem dX6_unneeded_29 : decode cX6_unneeded 29 = .ok (.iaload, 1) := by decide +kernel
theorem dX6_unneeded_30 : decode cX6_unneeded 30 = .ok (.if_icmp .ge 87, 3) := by decide +kernel
theorem dX6_unneeded_33 : decode cX6_unneeded 33 = .ok (.aload_n 0, 1) := by decide +kernel
theorem dX6_unneeded_34 : decode cX6_unneeded 34 = .ok (.getfield 155, 3) := by decide +kernel
theorem dX6_unneeded_37 : decode cX6_unneeded 37 = .ok (.iload_n 2, 1) := by decide +kernel
theorem dX6_unneeded_38 : decode cX6_unneeded 38 = .ok (.invokestatic 158, 3) := by decide +kernel
theorem dX6_unneeded_41 : decode cX6_unneeded 41 = .ok (.ifCond .eq 76, 3) := by decide +kernel
theorem dX6_unneeded_44 : decode cX6_unneeded 44 = .ok (.aload_n 0, 1) := by decide +kernel
theorem dX6_unneeded_45 : decode cX6_unneeded 45 = .ok (.getfield 22, 3) := by decide +kernel
theorem dX6_unneeded_48 : decode cX6_unneeded 48 = .ok (.iload_n 2, 1) := by decide +kernel
theorem dX6_unneeded_49 : decode cX6_unneeded 49 = .ok (.aaload, 1) := by decide +kernel
theorem dX6_unneeded_50 : decode cX6_unneeded 50 = .ok (.iload_n 3, 1) := by decide +kernel
theorem dX6_unneeded_51 : decode cX6_unneeded 51 = .ok (.iaload, 1) := by decide +kernel
theorem dX6_unneeded_52 : decode cX6_unneeded 52 = .ok (.istore 4, 2) := by decide +kernel
theorem dX6_unneeded_54 : decode cX6_unneeded 54 = .ok (.iload 4, 2) := by decide +kernel
theorem dX6_unneeded_56 : decode cX6_unneeded 56 = .ok (.bipush 10, 2) := by decide +kernel
theorem dX6_unneeded_58 : decode cX6_unneeded 58 = .ok (.if_icmp .ge 37, 3) := by decide +kernel
theorem dX6_unneeded_61 : decode cX6_unneeded 61 = .ok (.aload_n 0, 1) := by decide +kernel
theorem dX6_unneeded_62 : decode cX6_unneeded 62 = .ok (.iload 4, 2) := by decide +kernel
theorem dX6_unneeded_64 : decode cX6_unneeded 64 = .ok (.bipush 10, 2) := by decide +kernel
theorem dX6_unneeded_66 : decode cX6_unneeded 66 = .ok (.iload_n 2, 1) := by decide +kernel
theorem dX6_unneeded_67 : decode cX6_unneeded 67 = .ok (.imul, 1) := by decide +kernel
theorem dX6_unneeded_68 : decode cX6_unneeded 68 = .ok (.iload_n 3, 1) := by decide +kernel
theorem dX6_unneeded_69 : decode cX6_unneeded 69 = .ok (.iadd, 1) := by decide +kernel
theorem dX6_unneeded_70 : decode cX6_unneeded 70 = .ok (.invokevirtual 219, 3) := by decide +kernel
theorem dX6_unneeded_73 : decode cX6_unneeded 73 = .ok (.ifCond .ne 22, 3) := by decide +kernel
theorem dX6_unneeded_76 : decode cX6_unneeded 76 = .ok (.aload_n 0, 1) := by decide +kernel
theorem dX6_unneeded_77 : decode cX6_unneeded 77 = .ok (.iload 4, 2) := by decide +kernel
theorem dX6_unneeded_79 : decode cX6_unneeded 79 = .ok (.bipush 10, 2) := by decide +kernel
theorem dX6_unneeded_81 : decode cX6_unneeded 81 = .ok (.iload_n 2, 1) := by decide +kernel
theorem dX6_unneeded_82 : decode cX6_unneeded 82 = .ok (.imul, 1) := by decide +kernel
theorem dX6_unneeded_83 : decode cX6_unneeded 83 = .ok (.iload_n 3, 1) := by decide +kernel
theorem dX6_unneeded_84 : decode cX6_unneeded 84 = .ok (.iadd, 1) := by decide +kernel
theorem dX6_unneeded_85 : decode cX6_unneeded 85 = .ok (.invokevirtual 222, 3) := by decide +kernel
theorem dX6_unneeded_88 : decode cX6_unneeded 88 = .ok (.ifCond .ne 7, 3) := by decide +kernel
theorem dX6_unneeded_91 : decode cX6_unneeded 91 = .ok (.iconst 1, 1) := by decide +kernel
theorem dX6_unneeded_92 : decode cX6_unneeded 92 = .ok (.goto 4, 3) := by decide +kernel
theorem dX6_unneeded_95 : decode cX6_unneeded 95 = .ok (.iconst 0, 1) := by decide +kernel
theorem dX6_unneeded_96 : decode cX6_unneeded 96 = .ok (.istore 5, 2) := by decide +kernel
theorem dX6_unneeded_98 : decode cX6_unneeded 98 = .ok (.iload_n 1, 1) := by decide +kernel
theorem dX6_unneeded_99 : decode cX6_unneeded 99 = .ok (.iload 5, 2) := by decide +kernel
theorem dX6_unneeded_101 : decode cX6_unneeded 101 = .ok (.ifCond .eq 7, 3) := by decide +kernel
theorem dX6_unneeded_104 : decode cX6_unneeded 104 = .ok (.iconst 1, 1) := by decide +kernel
theorem dX6_unneeded_105 : decode cX6_unneeded 105 = .ok (.goto 4, 3) := by decide +kernel
theorem dX6_unneeded_108 : decode cX6_unneeded 108 = .ok (.iconst 0, 1) := by decide +kernel
theorem dX6_unneeded_109 : decode cX6_unneeded 109 = .ok (.iadd, 1) := by decide +kernel
theorem dX6_unneeded_110 : decode cX6_unneeded 110 = .ok (.istore_n 1, 1) := by decide +kernel
theorem dX6_unneeded_111 : decode cX6_unneeded 111 = .ok (.iinc 3 1, 3) := by decide +kernel
theorem dX6_unneeded_114 : decode cX6_unneeded 114 = .ok (.goto (-91), 3) := by decide +kernel
theorem dX6_unneeded_117 : decode cX6_unneeded 117 = .ok (.iinc 2 1, 3) := by decide +kernel
theorem dX6_unneeded_120 : decode cX6_unneeded 120 = .ok (.goto (-107), 3) := by decide +kernel
theorem dX6_unneeded_123 : decode cX6_unneeded 123 = .ok (.iload_n 1, 1) := by decide +kernel
theorem dX6_unneeded_124 : decode cX6_unneeded 124 = .ok (.ireturn, 1) := by decide +kernel
theorem dX6_arrival_0 : decode cX6_arrival 0 = .ok (.iconst 0, 1) := by decide +kernel
theorem dX6_arrival_1 : decode cX6_arrival 1 = .ok (.istore 4, 2) := by decide +kernel
theorem dX6_arrival_3 : decode cX6_arrival 3 = .ok (.iload_n 3, 1) := by decide +kernel
theorem dX6_arrival_4 : decode cX6_arrival 4 = .ok (.ifCond .eq 20, 3) := by decide +kernel
theorem dX6_arrival_7 : decode cX6_arrival 7 = .ok (.aload_n 0, 1) := by decide +kernel
theorem dX6_arrival_8 : decode cX6_arrival 8 = .ok (.iconst 0, 1) := by decide +kernel
theorem dX6_arrival_9 : decode cX6_arrival 9 = .ok (.iload_n 2, 1) := by decide +kernel
theorem dX6_arrival_10 : decode cX6_arrival 10 = .ok (.invokevirtual 171, 3) := by decide +kernel
theorem dX6_arrival_13 : decode cX6_arrival 13 = .ok (.ifCond .eq 7, 3) := by decide +kernel
theorem dX6_arrival_16 : decode cX6_arrival 16 = .ok (.iconst 0, 1) := by decide +kernel
theorem dX6_arrival_17 : decode cX6_arrival 17 = .ok (.goto 10, 3) := by decide +kernel
theorem dX6_arrival_20 : decode cX6_arrival 20 = .ok (.iconst 1, 1) := by decide +kernel
theorem dX6_arrival_21 : decode cX6_arrival 21 = .ok (.goto 6, 3) := by decide +kernel
theorem dX6_arrival_24 : decode cX6_arrival 24 = .ok (.iconst 1, 1) := by decide +kernel
theorem dX6_arrival_25 : decode cX6_arrival 25 = .ok (.iload_n 1, 1) := by decide +kernel
theorem dX6_arrival_26 : decode cX6_arrival 26 = .ok (.ishl, 1) := by decide +kernel
theorem dX6_arrival_27 : decode cX6_arrival 27 = .ok (.istore 5, 2) := by decide +kernel
theorem dX6_arrival_29 : decode cX6_arrival 29 = .ok (.iconst (-1), 1) := by decide +kernel
theorem dX6_arrival_30 : decode cX6_arrival 30 = .ok (.istore 6, 2) := by decide +kernel
theorem dX6_arrival_32 : decode cX6_arrival 32 = .ok (.iload 4, 2) := by decide +kernel
theorem dX6_arrival_34 : decode cX6_arrival 34 = .ok (.iload 6, 2) := by decide +kernel
theorem dX6_arrival_36 : decode cX6_arrival 36 = .ok (.if_icmp .eq 108, 3) := by decide +kernel
theorem dX6_arrival_39 : decode cX6_arrival 39 = .ok (.iload 4, 2) := by decide +kernel
theorem dX6_arrival_41 : decode cX6_arrival 41 = .ok (.istore 6, 2) := by decide +kernel
theorem dX6_arrival_43 : decode cX6_arrival 43 = .ok (.iconst 0, 1) := by decide +kernel
theorem dX6_arrival_44 : decode cX6_arrival 44 = .ok (.istore 7, 2) := by decide +kernel
theorem dX6_arrival_46 : decode cX6_arrival 46 = .ok (.iload 7, 2) := by decide +kernel
theorem dX6_arrival_48 : decode cX6_arrival 48 = .ok (.aload_n 0, 1) := by decide +kernel
theorem dX6_arrival_49 : decode cX6_arrival 49 = .ok (.getfield 7, 3) := by decide +kernel
theorem dX6_arrival_52 : decode cX6_arrival 52 = .ok (.if_icmp .ge 89, 3) := by decide +kernel
theorem dX6_arrival_55 : decode cX6_arrival 55 = .ok (.iload 5, 2) := by decide +kernel
theorem dX6_arrival_57 : decode cX6_arrival 57 = .ok (.iload 7, 2) := by decide +kernel
theorem dX6_arrival_59 : decode cX6_arrival 59 = .ok (.invokestatic 158, 3) := by decide +kernel
theorem dX6_arrival_62 : decode cX6_arrival 62 = .ok (.ifCond .ne 23, 3) := by decide +kernel
theorem dX6_arrival_65 : decode cX6_arrival 65 = .ok (.iload 4, 2) := by decide +kernel
theorem dX6_arrival_67 : decode cX6_arrival 67 = .ok (.iload 7, 2) := by decide +kernel
theorem dX6_arrival_69 : decode cX6_arrival 69 = .ok (.invokestatic 158, 3) := by decide +kernel
theorem dX6_arrival_72 : decode cX6_arrival 72 = .ok (.ifCond .eq 17, 3) := by decide +kernel
theorem dX6_arrival_75 : decode cX6_arrival 75 = .ok (.aload_n 0, 1) := by decide +kernel
theorem dX6_arrival_76 : decode cX6_arrival 76 = .ok (.iload 7, 2) := by decide +kernel
theorem dX6_arrival_78 : decode cX6_arrival 78 = .ok (.iload_n 2, 1) := by decide +kernel
theorem dX6_arrival_79 : decode cX6_arrival 79 = .ok (.invokevirtual 171, 3) := by decide +kernel
theorem dX6_arrival_82 : decode cX6_arrival 82 = .ok (.ifCond .ne 7, 3) := by decide +kernel
theorem dX6_arrival_85 : decode cX6_arrival 85 = .ok (.iconst 1, 1) := by decide +kernel
theorem dX6_arrival_86 : decode cX6_arrival 86 = .ok (.goto 4, 3) := by decide +kernel
theorem dX6_arrival_89 : decode cX6_arrival 89 = .ok (.iconst 0, 1) := by decide +kernel
theorem dX6_arrival_90 : decode cX6_arrival 90 = .ok (.istore 8, 2) := by decide +kernel
theorem dX6_arrival_92 : decode cX6_arrival 92 = .ok (.iconst 0, 1) := by decide +kernel
theorem dX6_arrival_93 : decode cX6_arrival 93 = .ok (.istore 9, 2) := by decide +kernel
theorem dX6_arrival_95 : decode cX6_arrival 95 = .ok (.iload 9, 2) := by decide +kernel
theorem dX6_arrival_97 : decode cX6_arrival 97 = .ok (.aload_n 0, 1) := by decide +kernel
theorem dX6_arrival_98 : decode cX6_arrival 98 = .ok (.getfield 17, 3) := by decide +kernel
theorem dX6_arrival_101 : decode cX6_arrival 101 = .ok (.iload 7, 2) := by decide +kernel
theorem dX6_arrival_103 : decode cX6_arrival 103 = .ok (.iaload, 1) := by decide +kernel
theorem dX6_arrival_104 : decode cX6_arrival 104 = .ok (.if_icmp .ge 31, 3) := by decide +kernel
theorem dX6_arrival_107 : decode cX6_arrival 107 = .ok (.iload 8, 2) := by decide +kernel
theorem dX6_arrival_109 : decode cX6_arrival 109 = .ok (.ifCond .eq 26, 3) := by decide +kernel
theorem dX6_arrival_112 : decode cX6_arrival 112 = .ok (.iload 4, 2) := by decide +kernel
theorem dX6_arrival_114 : decode cX6_arrival 114 = .ok (.iconst 1, 1) := by decide +kernel
theorem dX6_arrival_115 : decode cX6_arrival 115 = .ok (.aload_n 0, 1) := by decide +kernel
theorem dX6_arrival_116 : decode cX6_arrival 116 = .ok (.getfield 25, 3) := by decide +kernel
theorem dX6_arrival_119 : decode cX6_arrival 119 = .ok (.iload 7, 2) := by decide +kernel
theorem dX6_arrival_121 : decode cX6_arrival 121 = .ok (.aaload, 1) := by decide +kernel
theorem dX6_arrival_122 : decode cX6_arrival 122 = .ok (.iload 9, 2) := by decide +kernel
theorem dX6_arrival_124 : decode cX6_arrival 124 = .ok (.iaload, 1) := by decide +kernel
theorem dX6_arrival_125 : decode cX6_arrival 125 = .ok (.ishl, 1) := by decide +kernel
theorem dX6_arrival_126 : decode cX6_arrival 126 = .ok (.ior, 1) := by decide +kernel
theorem dX6_arrival_127 : decode cX6_arrival 127 = .ok (.istore 4, 2) := by decide +kernel
theorem dX6_arrival_129 : decode cX6_arrival 129 = .ok (.iinc 9 1, 3) := by decide +kernel
theorem dX6_arrival_132 : decode cX6_arrival 132 = .ok (.goto (-37), 3) := by decide +kernel
theorem dX6_arrival_135 : decode cX6_arrival 135 = .ok (.iinc 7 1, 3) := by decide +kernel
theorem dX6_arrival_138 : decode cX6_arrival 138 = .ok (.goto (-92), 3) := by decide +kernel
theorem dX6_arrival_141 : decode cX6_arrival 141 = .ok (.goto (-109), 3) := by decide +kernel
theorem dX6_arrival_144 : decode cX6_arrival 144 = .ok (.iload 4, 2) := by decide +kernel
theorem dX6_arrival_146 : decode cX6_arrival 146 = .ok (.ireturn, 1) := by decide +kernel
theorem dX6_countReaching_0 : decode cX6_countReaching 0 = .ok (.iconst 0, 1) := by decide +kernel
theorem dX6_countReaching_1 : decode cX6_countReaching 1 = .ok (.istore 4, 2) := by decide +kernel
theorem dX6_countReaching_3 : decode cX6_countReaching 3 = .ok (.iconst 0, 1) := by decide +kernel
theorem dX6_countReaching_4 : decode cX6_countReaching 4 = .ok (.istore 5, 2) := by decide +kernel
theorem dX6_countReaching_6 : decode cX6_countReaching 6 = .ok (.iload 5, 2) := by decide +kernel
theorem dX6_countReaching_8 : decode cX6_countReaching 8 = .ok (.aload_n 0, 1) := by decide +kernel
theorem dX6_countReaching_9 : decode cX6_countReaching 9 = .ok (.getfield 7, 3) := by decide +kernel
theorem dX6_countReaching_12 : decode cX6_countReaching 12 = .ok (.if_icmp .ge 85, 3) := by decide +kernel
theorem dX6_countReaching_15 : decode cX6_countReaching 15 = .ok (.aload_n 0, 1) := by decide +kernel
theorem dX6_countReaching_16 : decode cX6_countReaching 16 = .ok (.iload 5, 2) := by decide +kernel
theorem dX6_countReaching_18 : decode cX6_countReaching 18 = .ok (.iload_n 2, 1) := by decide +kernel
theorem dX6_countReaching_19 : decode cX6_countReaching 19 = .ok (.aload_n 0, 1) := by decide +kernel
theorem dX6_countReaching_20 : decode cX6_countReaching 20 = .ok (.getfield 13, 3) := by decide +kernel
theorem dX6_countReaching_23 : decode cX6_countReaching 23 = .ok (.iload 5, 2) := by decide +kernel
theorem dX6_countReaching_25 : decode cX6_countReaching 25 = .ok (.iaload, 1) := by decide +kernel
theorem dX6_countReaching_26 : decode cX6_countReaching 26 = .ok (.invokevirtual 164, 3) := by decide +kernel
theorem dX6_countReaching_29 : decode cX6_countReaching 29 = .ok (.istore 6, 2) := by decide +kernel
theorem dX6_countReaching_31 : decode cX6_countReaching 31 = .ok (.aload_n 0, 1) := by decide +kernel
theorem dX6_countReaching_32 : decode cX6_countReaching 32 = .ok (.getfield 155, 3) := by decide +kernel
theorem dX6_countReaching_35 : decode cX6_countReaching 35 = .ok (.iload 5, 2) := by decide +kernel
theorem dX6_countReaching_37 : decode cX6_countReaching 37 = .ok (.invokestatic 158, 3) := by decide +kernel
theorem dX6_countReaching_40 : decode cX6_countReaching 40 = .ok (.ifCond .eq 51, 3) := by decide +kernel
theorem dX6_countReaching_43 : decode cX6_countReaching 43 = .ok (.iload 6, 2) := by decide +kernel
theorem dX6_countReaching_45 : decode cX6_countReaching 45 = .ok (.ifCond .lt 46, 3) := by decide +kernel
theorem dX6_countReaching_48 : decode cX6_countReaching 48 = .ok (.aload_n 0, 1) := by decide +kernel
theorem dX6_countReaching_49 : decode cX6_countReaching 49 = .ok (.iload 5, 2) := by decide +kernel
theorem dX6_countReaching_51 : decode cX6_countReaching 51 = .ok (.iload_n 2, 1) := by decide +kernel
theorem dX6_countReaching_52 : decode cX6_countReaching 52 = .ok (.iconst 0, 1) := by decide +kernel
theorem dX6_countReaching_53 : decode cX6_countReaching 53 = .ok (.invokevirtual 225, 3) := by decide +kernel
theorem dX6_countReaching_56 : decode cX6_countReaching 56 = .ok (.iload_n 1, 1) := by decide +kernel
theorem dX6_countReaching_57 : decode cX6_countReaching 57 = .ok (.invokestatic 158, 3) := by decide +kernel
theorem dX6_countReaching_60 : decode cX6_countReaching 60 = .ok (.ifCond .eq 31, 3) := by decide +kernel
theorem dX6_countReaching_63 : decode cX6_countReaching 63 = .ok (.aload_n 0, 1) := by decide +kernel
theorem dX6_countReaching_64 : decode cX6_countReaching 64 = .ok (.iload 4, 2) := by decide +kernel
theorem dX6_countReaching_66 : decode cX6_countReaching 66 = .ok (.iload_n 3, 1) := by decide +kernel
theorem dX6_countReaching_67 : decode cX6_countReaching 67 = .ok (.if_icmp .ne 14, 3) := by decide +kernel
theorem dX6_countReaching_70 : decode cX6_countReaching 70 = .ok (.bipush 10, 2) := by decide +kernel
theorem dX6_countReaching_72 : decode cX6_countReaching 72 = .ok (.iload 5, 2) := by decide +kernel
theorem dX6_countReaching_74 : decode cX6_countReaching 74 = .ok (.imul, 1) := by decide +kernel
theorem dX6_countReaching_75 : decode cX6_countReaching 75 = .ok (.iload 6, 2) := by decide +kernel
theorem dX6_countReaching_77 : decode cX6_countReaching 77 = .ok (.iadd, 1) := by decide +kernel
theorem dX6_countReaching_78 : decode cX6_countReaching 78 = .ok (.goto 7, 3) := by decide +kernel
theorem dX6_countReaching_81 : decode cX6_countReaching 81 = .ok (.aload_n 0, 1) := by decide +kernel
theorem dX6_countReaching_82 : decode cX6_countReaching 82 = .ok (.getfield 229, 3) := by decide +kernel
theorem dX6_countReaching_85 : decode cX6_countReaching 85 = .ok (.putfield 229, 3) := by decide +kernel
theorem dX6_countReaching_88 : decode cX6_countReaching 88 = .ok (.iinc 4 1, 3) := by decide +kernel
theorem dX6_countReaching_91 : decode cX6_countReaching 91 = .ok (.iinc 5 1, 3) := by decide +kernel
theorem dX6_countReaching_94 : decode cX6_countReaching 94 = .ok (.goto (-88), 3) := by decide +kernel
theorem dX6_countReaching_97 : decode cX6_countReaching 97 = .ok (.iload 4, 2) := by decide +kernel
theorem dX6_countReaching_99 : decode cX6_countReaching 99 = .ok (.ireturn, 1) := by decide +kernel
theorem dX6_reachingCount_0 : decode cX6_reachingCount 0 = .ok (.aload_n 0, 1) := by decide +kernel
theorem dX6_reachingCount_1 : decode cX6_reachingCount 1 = .ok (.iload_n 1, 1) := by decide +kernel
theorem dX6_reachingCount_2 : decode cX6_reachingCount 2 = .ok (.iload_n 2, 1) := by decide +kernel
theorem dX6_reachingCount_3 : decode cX6_reachingCount 3 = .ok (.invokevirtual 205, 3) := by decide +kernel
theorem dX6_reachingCount_6 : decode cX6_reachingCount 6 = .ok (.ifCond .eq 7, 3) := by decide +kernel
theorem dX6_reachingCount_9 : decode cX6_reachingCount 9 = .ok (.iconst 0, 1) := by decide +kernel
theorem dX6_reachingCount_10 : decode cX6_reachingCount 10 = .ok (.goto 10, 3) := by decide +kernel
theorem dX6_reachingCount_13 : decode cX6_reachingCount 13 = .ok (.aload_n 0, 1) := by decide +kernel
theorem dX6_reachingCount_14 : decode cX6_reachingCount 14 = .ok (.iload_n 1, 1) := by decide +kernel
theorem dX6_reachingCount_15 : decode cX6_reachingCount 15 = .ok (.iload_n 2, 1) := by decide +kernel
theorem dX6_reachingCount_16 : decode cX6_reachingCount 16 = .ok (.iconst (-1), 1) := by decide +kernel
theorem dX6_reachingCount_17 : decode cX6_reachingCount 17 = .ok (.invokevirtual 232, 3) := by decide +kernel
theorem dX6_reachingCount_20 : decode cX6_reachingCount 20 = .ok (.ireturn, 1) := by decide +kernel
theorem dX6_reaching_0 : decode cX6_reaching 0 = .ok (.aload_n 0, 1) := by decide +kernel
theorem dX6_reaching_1 : decode cX6_reaching 1 = .ok (.iload_n 1, 1) := by decide +kernel
theorem dX6_reaching_2 : decode cX6_reaching 2 = .ok (.iload_n 2, 1) := by decide +kernel
theorem dX6_reaching_3 : decode cX6_reaching 3 = .ok (.invokevirtual 205, 3) := by decide +kernel
theorem dX6_reaching_6 : decode cX6_reaching 6 = .ok (.ifCond .eq 5, 3) := by decide +kernel
theorem dX6_reaching_9 : decode cX6_reaching 9 = .ok (.iconst 0, 1) := by decide +kernel
theorem dX6_reaching_10 : decode cX6_reaching 10 = .ok (.ireturn, 1) := by decide +kernel
theorem dX6_reaching_11 : decode cX6_reaching 11 = .ok (.aload_n 0, 1) := by decide +kernel
theorem dX6_reaching_12 : decode cX6_reaching 12 = .ok (.iload_n 1, 1) := by decide +kernel
theorem dX6_reaching_13 : decode cX6_reaching 13 = .ok (.iload_n 2, 1) := by decide +kernel
theorem dX6_reaching_14 : decode cX6_reaching 14 = .ok (.iload_n 3, 1) := by decide +kernel
theorem dX6_reaching_15 : decode cX6_reaching 15 = .ok (.invokevirtual 232, 3) := by decide +kernel
theorem dX6_reaching_18 : decode cX6_reaching 18 = .ok (.istore 4, 2) := by decide +kernel
theorem dX6_reaching_20 : decode cX6_reaching 20 = .ok (.aload_n 0, 1) := by decide +kernel
theorem dX6_reaching_21 : decode cX6_reaching 21 = .ok (.iconst 3, 1) := by decide +kernel
theorem dX6_reaching_22 : decode cX6_reaching 22 = .ok (.iload_n 3, 1) := by decide +kernel
theorem dX6_reaching_23 : decode cX6_reaching 23 = .ok (.iconst 0, 1) := by decide +kernel
theorem dX6_reaching_24 : decode cX6_reaching 24 = .ok (.iload 4, 2) := by decide +kernel
theorem dX6_reaching_26 : decode cX6_reaching 26 = .ok (.iconst 1, 1) := by decide +kernel
theorem dX6_reaching_27 : decode cX6_reaching 27 = .ok (.isub, 1) := by decide +kernel
theorem dX6_reaching_28 : decode cX6_reaching 28 = .ok (.invokestatic 86, 3) := by decide +kernel
theorem dX6_reaching_31 : decode cX6_reaching 31 = .ok (.ifCond .ne 7, 3) := by decide +kernel
theorem dX6_reaching_34 : decode cX6_reaching 34 = .ok (.iconst 1, 1) := by decide +kernel
theorem dX6_reaching_35 : decode cX6_reaching 35 = .ok (.goto 4, 3) := by decide +kernel
theorem dX6_reaching_38 : decode cX6_reaching 38 = .ok (.iconst 0, 1) := by decide +kernel
theorem dX6_reaching_39 : decode cX6_reaching 39 = .ok (.invokevirtual 100, 3) := by decide +kernel
theorem dX6_reaching_42 : decode cX6_reaching 42 = .ok (.ifCond .eq 7, 3) := by decide +kernel
theorem dX6_reaching_45 : decode cX6_reaching 45 = .ok (.iconst 0, 1) := by decide +kernel
theorem dX6_reaching_46 : decode cX6_reaching 46 = .ok (.goto 7, 3) := by decide +kernel
theorem dX6_reaching_49 : decode cX6_reaching 49 = .ok (.aload_n 0, 1) := by decide +kernel
theorem dX6_reaching_50 : decode cX6_reaching 50 = .ok (.getfield 229, 3) := by decide +kernel
theorem dX6_reaching_53 : decode cX6_reaching 53 = .ok (.ireturn, 1) := by decide +kernel
theorem dX6_isInitialReaching_0 : decode cX6_isInitialReaching 0 = .ok (.aload_n 0, 1) := by decide +kernel
theorem dX6_isInitialReaching_1 : decode cX6_isInitialReaching 1 = .ok (.iload_n 1, 1) := by decide +kernel
theorem dX6_isInitialReaching_2 : decode cX6_isInitialReaching 2 = .ok (.iload_n 2, 1) := by decide +kernel
theorem dX6_isInitialReaching_3 : decode cX6_isInitialReaching 3 = .ok (.invokevirtual 205, 3) := by decide +kernel
theorem dX6_isInitialReaching_6 : decode cX6_isInitialReaching 6 = .ok (.ifCond .ne 25, 3) := by decide +kernel
theorem dX6_isInitialReaching_9 : decode cX6_isInitialReaching 9 = .ok (.iload_n 1, 1) := by decide +kernel
theorem dX6_isInitialReaching_10 : decode cX6_isInitialReaching 10 = .ok (.ifCond .eq 17, 3) := by decide +kernel
theorem dX6_isInitialReaching_13 : decode cX6_isInitialReaching 13 = .ok (.aload_n 0, 1) := by decide +kernel
theorem dX6_isInitialReaching_14 : decode cX6_isInitialReaching 14 = .ok (.iconst 0, 1) := by decide +kernel
theorem dX6_isInitialReaching_15 : decode cX6_isInitialReaching 15 = .ok (.iload_n 2, 1) := by decide +kernel
theorem dX6_isInitialReaching_16 : decode cX6_isInitialReaching 16 = .ok (.iconst 1, 1) := by decide +kernel
theorem dX6_isInitialReaching_17 : decode cX6_isInitialReaching 17 = .ok (.invokevirtual 225, 3) := by decide +kernel
theorem dX6_isInitialReaching_20 : decode cX6_isInitialReaching 20 = .ok (.iload_n 1, 1) := by decide +kernel
theorem dX6_isInitialReaching_21 : decode cX6_isInitialReaching 21 = .ok (.invokestatic 158, 3) := by decide +kernel
theorem dX6_isInitialReaching_24 : decode cX6_isInitialReaching 24 = .ok (.ifCond .eq 7, 3) := by decide +kernel
theorem dX6_isInitialReaching_27 : decode cX6_isInitialReaching 27 = .ok (.iconst 1, 1) := by decide +kernel
theorem dX6_isInitialReaching_28 : decode cX6_isInitialReaching 28 = .ok (.goto 4, 3) := by decide +kernel
theorem dX6_isInitialReaching_31 : decode cX6_isInitialReaching 31 = .ok (.iconst 0, 1) := by decide +kernel
theorem dX6_isInitialReaching_32 : decode cX6_isInitialReaching 32 = .ok (.ireturn, 1) := by decide +kernel
theorem dX6_isReportEmpty_0 : decode cX6_isReportEmpty 0 = .ok (.aload_n 0, 1) := by decide +kernel
theorem dX6_isReportEmpty_1 : decode cX6_isReportEmpty 1 = .ok (.iconst 0, 1) := by decide +kernel
theorem dX6_isReportEmpty_2 : decode cX6_isReportEmpty 2 = .ok (.putfield 83, 3) := by decide +kernel
theorem dX6_isReportEmpty_5 : decode cX6_isReportEmpty 5 = .ok (.aload_n 0, 1) := by decide +kernel
theorem dX6_isReportEmpty_6 : decode cX6_isReportEmpty 6 = .ok (.getfield 90, 3) := by decide +kernel
theorem dX6_isReportEmpty_9 : decode cX6_isReportEmpty 9 = .ok (.ifCond .ne 5, 3) := by decide +kernel
theorem dX6_isReportEmpty_12 : decode cX6_isReportEmpty 12 = .ok (.iconst 1, 1) := by decide +kernel
theorem dX6_isReportEmpty_13 : decode cX6_isReportEmpty 13 = .ok (.ireturn, 1) := by decide +kernel
theorem dX6_isReportEmpty_14 : decode cX6_isReportEmpty 14 = .ok (.aload_n 0, 1) := by decide +kernel
theorem dX6_isReportEmpty_15 : decode cX6_isReportEmpty 15 = .ok (.aload_n 0, 1) := by decide +kernel
theorem dX6_isReportEmpty_16 : decode cX6_isReportEmpty 16 = .ok (.getfield 28, 3) := by decide +kernel
theorem dX6_isReportEmpty_19 : decode cX6_isReportEmpty 19 = .ok (.bipush 8, 2) := by decide +kernel
theorem dX6_isReportEmpty_21 : decode cX6_isReportEmpty 21 = .ok (.aaload, 1) := by decide +kernel
theorem dX6_isReportEmpty_22 : decode cX6_isReportEmpty 22 = .ok (.invokevirtual 93, 3) := by decide +kernel
theorem dX6_isReportEmpty_25 : decode cX6_isReportEmpty 25 = .ok (.aload_n 0, 1) := by decide +kernel
theorem dX6_isReportEmpty_26 : decode cX6_isReportEmpty 26 = .ok (.aload_n 0, 1) := by decide +kernel
theorem dX6_isReportEmpty_27 : decode cX6_isReportEmpty 27 = .ok (.getfield 28, 3) := by decide +kernel
theorem dX6_isReportEmpty_30 : decode cX6_isReportEmpty 30 = .ok (.aload_n 0, 1) := by decide +kernel
theorem dX6_isReportEmpty_31 : decode cX6_isReportEmpty 31 = .ok (.getfield 90, 3) := by decide +kernel
theorem dX6_isReportEmpty_34 : decode cX6_isReportEmpty 34 = .ok (.iconst 1, 1) := by decide +kernel
theorem dX6_isReportEmpty_35 : decode cX6_isReportEmpty 35 = .ok (.isub, 1) := by decide +kernel
theorem dX6_isReportEmpty_36 : decode cX6_isReportEmpty 36 = .ok (.aaload, 1) := by decide +kernel
theorem dX6_isReportEmpty_37 : decode cX6_isReportEmpty 37 = .ok (.invokevirtual 235, 3) := by decide +kernel
theorem dX6_isReportEmpty_40 : decode cX6_isReportEmpty 40 = .ok (.aload_n 0, 1) := by decide +kernel
theorem dX6_isReportEmpty_41 : decode cX6_isReportEmpty 41 = .ok (.invokevirtual 196, 3) := by decide +kernel
theorem dX6_isReportEmpty_44 : decode cX6_isReportEmpty 44 = .ok (.aload_n 0, 1) := by decide +kernel
theorem dX6_isReportEmpty_45 : decode cX6_isReportEmpty 45 = .ok (.aload_n 0, 1) := by decide +kernel
theorem dX6_isReportEmpty_46 : decode cX6_isReportEmpty 46 = .ok (.getfield 155, 3) := by decide +kernel
theorem dX6_isReportEmpty_49 : decode cX6_isReportEmpty 49 = .ok (.putfield 238, 3) := by decide +kernel
theorem dX6_isReportEmpty_52 : decode cX6_isReportEmpty 52 = .ok (.iconst 0, 1) := by decide +kernel
theorem dX6_isReportEmpty_53 : decode cX6_isReportEmpty 53 = .ok (.istore_n 1, 1) := by decide +kernel
theorem dX6_isReportEmpty_54 : decode cX6_isReportEmpty 54 = .ok (.iload_n 1, 1) := by decide +kernel
theorem dX6_isReportEmpty_55 : decode cX6_isReportEmpty 55 = .ok (.iconst 4, 1) := by decide +kernel
theorem dX6_isReportEmpty_56 : decode cX6_isReportEmpty 56 = .ok (.if_icmp .ge 21, 3) := by decide +kernel
theorem dX6_isReportEmpty_59 : decode cX6_isReportEmpty 59 = .ok (.aload_n 0, 1) := by decide +kernel
theorem dX6_isReportEmpty_60 : decode cX6_isReportEmpty 60 = .ok (.getfield 74, 3) := by decide +kernel
theorem dX6_isReportEmpty_63 : decode cX6_isReportEmpty 63 = .ok (.iload_n 1, 1) := by decide +kernel
theorem dX6_isReportEmpty_64 : decode cX6_isReportEmpty 64 = .ok (.aload_n 0, 1) := by decide +kernel
theorem dX6_isReportEmpty_65 : decode cX6_isReportEmpty 65 = .ok (.getfield 65, 3) := by decide +kernel
theorem dX6_isReportEmpty_68 : decode cX6_isReportEmpty 68 = .ok (.iload_n 1, 1) := by decide +kernel
theorem dX6_isReportEmpty_69 : decode cX6_isReportEmpty 69 = .ok (.iaload, 1) := by decide +kernel
theorem dX6_isReportEmpty_70 : decode cX6_isReportEmpty 70 = .ok (.iastore, 1) := by decide +kernel
theorem dX6_isReportEmpty_71 : decode cX6_isReportEmpty 71 = .ok (.iinc 1 1, 3) := by decide +kernel
theorem dX6_isReportEmpty_74 : decode cX6_isReportEmpty 74 = .ok (.goto (-20), 3) := by decide +kernel
theorem dX6_isReportEmpty_77 : decode cX6_isReportEmpty 77 = .ok (.iconst 0, 1) := by decide +kernel
theorem dX6_isReportEmpty_78 : decode cX6_isReportEmpty 78 = .ok (.istore_n 1, 1) := by decide +kernel
theorem dX6_isReportEmpty_79 : decode cX6_isReportEmpty 79 = .ok (.iload_n 1, 1) := by decide +kernel
theorem dX6_isReportEmpty_80 : decode cX6_isReportEmpty 80 = .ok (.bipush 14, 2) := by decide +kernel
theorem dX6_isReportEmpty_82 : decode cX6_isReportEmpty 82 = .ok (.if_icmp .ge 106, 3) := by decide +kernel
theorem dX6_isReportEmpty_85 : decode cX6_isReportEmpty 85 = .ok (.iconst 0, 1) := by decide +kernel
theorem dX6_isReportEmpty_86 : decode cX6_isReportEmpty 86 = .ok (.istore_n 2, 1) := by decide +kernel
theorem dX6_isReportEmpty_87 : decode cX6_isReportEmpty 87 = .ok (.iload_n 2, 1) := by decide +kernel
theorem dX6_isReportEmpty_88 : decode cX6_isReportEmpty 88 = .ok (.bipush 6, 2) := by decide +kernel
theorem dX6_isReportEmpty_90 : decode cX6_isReportEmpty 90 = .ok (.if_icmp .ge 92, 3) := by decide +kernel
theorem dX6_isReportEmpty_93 : decode cX6_isReportEmpty 93 = .ok (.iload_n 1, 1) := by decide +kernel
theorem dX6_isReportEmpty_94 : decode cX6_isReportEmpty 94 = .ok (.aload_n 0, 1) := by decide +kernel
theorem dX6_isReportEmpty_95 : decode cX6_isReportEmpty 95 = .ok (.getfield 7, 3) := by decide +kernel
theorem dX6_isReportEmpty_98 : decode cX6_isReportEmpty 98 = .ok (.if_icmp .ge 41, 3) := by decide +kernel
theorem dX6_isReportEmpty_101 : decode cX6_isReportEmpty 101 = .ok (.aload_n 0, 1) := by decide +kernel
theorem dX6_isReportEmpty_102 : decode cX6_isReportEmpty 102 = .ok (.getfield 155, 3) := by decide +kernel
theorem dX6_isReportEmpty_105 : decode cX6_isReportEmpty 105 = .ok (.iload_n 1, 1) := by decide +kernel
theorem dX6_isReportEmpty_106 : decode cX6_isReportEmpty 106 = .ok (.invokestatic 158, 3) := by decide +kernel
theorem dX6_isReportEmpty_109 : decode cX6_isReportEmpty 109 = .ok (.ifCond .eq 30, 3) := by decide +kernel
theorem dX6_isReportEmpty_112 : decode cX6_isReportEmpty 112 = .ok (.iload_n 2, 1) := by decide +kernel
theorem dX6_isReportEmpty_113 : decode cX6_isReportEmpty 113 = .ok (.aload_n 0, 1) := by decide +kernel
theorem dX6_isReportEmpty_114 : decode cX6_isReportEmpty 114 = .ok (.getfield 13, 3) := by decide +kernel
theorem dX6_isReportEmpty_117 : decode cX6_isReportEmpty 117 = .ok (.iload_n 1, 1) := by decide +kernel
theorem dX6_isReportEmpty_118 : decode cX6_isReportEmpty 118 = .ok (.iaload, 1) := by decide +kernel
theorem dX6_isReportEmpty_119 : decode cX6_isReportEmpty 119 = .ok (.if_icmp .ge 20, 3) := by decide +kernel
theorem dX6_isReportEmpty_122 : decode cX6_isReportEmpty 122 = .ok (.aload_n 0, 1) := by decide +kernel
theorem dX6_isReportEmpty_123 : decode cX6_isReportEmpty 123 = .ok (.getfield 22, 3) := by decide +kernel
theorem dX6_isReportEmpty_126 : decode cX6_isReportEmpty 126 = .ok (.iload_n 1, 1) := by decide +kernel
theorem dX6_isReportEmpty_127 : decode cX6_isReportEmpty 127 = .ok (.aaload, 1) := by decide +kernel
theorem dX6_isReportEmpty_128 : decode cX6_isReportEmpty 128 = .ok (.iload_n 2, 1) := by decide +kernel
theorem dX6_isReportEmpty_129 : decode cX6_isReportEmpty 129 = .ok (.iaload, 1) := by decide +kernel
theorem dX6_isReportEmpty_130 : decode cX6_isReportEmpty 130 = .ok (.bipush 10, 2) := by decide +kernel
theorem dX6_isReportEmpty_132 : decode cX6_isReportEmpty 132 = .ok (.if_icmp .lt 7, 3) := by decide +kernel
theorem dX6_isReportEmpty_135 : decode cX6_isReportEmpty 135 = .ok (.iconst 1, 1) := by decide +kernel
theorem dX6_isReportEmpty_136 : decode cX6_isReportEmpty 136 = .ok (.goto 4, 3) := by decide +kernel
theorem dX6_isReportEmpty_139 : decode cX6_isReportEmpty 139 = .ok (.iconst 0, 1) := by decide +kernel
theorem dX6_isReportEmpty_140 : decode cX6_isReportEmpty 140 = .ok (.istore_n 3, 1) := by decide +kernel
theorem dX6_isReportEmpty_141 : decode cX6_isReportEmpty 141 = .ok (.aload_n 0, 1) := by decide +kernel
theorem dX6_isReportEmpty_142 : decode cX6_isReportEmpty 142 = .ok (.getfield 77, 3) := by decide +kernel
theorem dX6_isReportEmpty_145 : decode cX6_isReportEmpty 145 = .ok (.iload_n 1, 1) := by decide +kernel
theorem dX6_isReportEmpty_146 : decode cX6_isReportEmpty 146 = .ok (.aaload, 1) := by decide +kernel
theorem dX6_isReportEmpty_147 : decode cX6_isReportEmpty 147 = .ok (.iload_n 2, 1) := by decide +kernel
theorem dX6_isReportEmpty_148 : decode cX6_isReportEmpty 148 = .ok (.iload_n 3, 1) := by decide +kernel
theorem dX6_isReportEmpty_149 : decode cX6_isReportEmpty 149 = .ok (.ifCond .eq 25, 3) := by decide +kernel
theorem dX6_isReportEmpty_152 : decode cX6_isReportEmpty 152 = .ok (.sipush 10000, 3) := by decide +kernel
theorem dX6_isReportEmpty_155 : decode cX6_isReportEmpty 155 = .ok (.aload_n 0, 1) := by decide +kernel
theorem dX6_isReportEmpty_156 : decode cX6_isReportEmpty 156 = .ok (.getfield 22, 3) := by decide +kernel
theorem dX6_isReportEmpty_159 : decode cX6_isReportEmpty 159 = .ok (.iload_n 1, 1) := by decide +kernel
theorem dX6_isReportEmpty_160 : decode cX6_isReportEmpty 160 = .ok (.aaload, 1) := by decide +kernel
theorem dX6_isReportEmpty_161 : decode cX6_isReportEmpty 161 = .ok (.iload_n 2, 1) := by decide +kernel
theorem dX6_isReportEmpty_162 : decode cX6_isReportEmpty 162 = .ok (.iaload, 1) := by decide +kernel
theorem dX6_isReportEmpty_163 : decode cX6_isReportEmpty 163 = .ok (.imul, 1) := by decide +kernel
theorem dX6_isReportEmpty_164 : decode cX6_isReportEmpty 164 = .ok (.aload_n 0, 1) := by decide +kernel
theorem dX6_isReportEmpty_165 : decode cX6_isReportEmpty 165 = .ok (.iload_n 1, 1) := by decide +kernel
theorem dX6_isReportEmpty_166 : decode cX6_isReportEmpty 166 = .ok (.iload_n 2, 1) := by decide +kernel
theorem dX6_isReportEmpty_167 : decode cX6_isReportEmpty 167 = .ok (.invokevirtual 216, 3) := by decide +kernel
theorem dX6_isReportEmpty_170 : decode cX6_isReportEmpty 170 = .ok (.iadd, 1) := by decide +kernel
theorem dX6_isReportEmpty_171 : decode cX6_isReportEmpty 171 = .ok (.goto 4, 3) := by decide +kernel
theorem dX6_isReportEmpty_174 : decode cX6_isReportEmpty 174 = .ok (.iconst (-1), 1) := by decide +kernel
theorem dX6_isReportEmpty_175 : decode cX6_isReportEmpty 175 = .ok (.iastore, 1) := by decide +kernel
theorem dX6_isReportEmpty_176 : decode cX6_isReportEmpty 176 = .ok (.iinc 2 1, 3) := by decide +kernel
theorem dX6_isReportEmpty_179 : decode cX6_isReportEmpty 179 = .ok (.goto (-92), 3) := by decide +kernel
theorem dX6_isReportEmpty_182 : decode cX6_isReportEmpty 182 = .ok (.iinc 1 1, 3) := by decide +kernel
theorem dX6_isReportEmpty_185 : decode cX6_isReportEmpty 185 = .ok (.goto (-106), 3) := by decide +kernel
theorem dX6_isReportEmpty_188 : decode cX6_isReportEmpty 188 = .ok (.aload_n 0, 1) := by decide +kernel
theorem dX6_isReportEmpty_189 : decode cX6_isReportEmpty 189 = .ok (.aload_n 0, 1) := by decide +kernel
theorem dX6_isReportEmpty_190 : decode cX6_isReportEmpty 190 = .ok (.getfield 28, 3) := by decide +kernel
theorem dX6_isReportEmpty_193 : decode cX6_isReportEmpty 193 = .ok (.bipush 8, 2) := by decide +kernel
theorem dX6_isReportEmpty_195 : decode cX6_isReportEmpty 195 = .ok (.aaload, 1) := by decide +kernel
theorem dX6_isReportEmpty_196 : decode cX6_isReportEmpty 196 = .ok (.invokevirtual 235, 3) := by decide +kernel
theorem dX6_isReportEmpty_199 : decode cX6_isReportEmpty 199 = .ok (.aload_n 0, 1) := by decide +kernel
theorem dX6_isReportEmpty_200 : decode cX6_isReportEmpty 200 = .ok (.invokevirtual 196, 3) := by decide +kernel
theorem dX6_isReportEmpty_203 : decode cX6_isReportEmpty 203 = .ok (.iconst 0, 1) := by decide +kernel
theorem dX6_isReportEmpty_204 : decode cX6_isReportEmpty 204 = .ok (.ireturn, 1) := by decide +kernel
theorem dX6_addedMerges_0 : decode cX6_addedMerges 0 = .ok (.aload_n 0, 1) := by decide +kernel
theorem dX6_addedMerges_1 : decode cX6_addedMerges 1 = .ok (.invokevirtual 241, 3) := by decide +kernel
theorem dX6_addedMerges_4 : decode cX6_addedMerges 4 = .ok (.ifCond .eq 5, 3) := by decide +kernel
theorem dX6_addedMerges_7 : decode cX6_addedMerges 7 = .ok (.iconst 0, 1) := by decide +kernel
theorem dX6_addedMerges_8 : decode cX6_addedMerges 8 = .ok (.ireturn, 1) := by decide +kernel
theorem dX6_addedMerges_9 : decode cX6_addedMerges 9 = .ok (.iconst 0, 1) := by decide +kernel
theorem dX6_addedMerges_10 : decode cX6_addedMerges 10 = .ok (.istore_n 1, 1) := by decide +kernel
theorem dX6_addedMerges_11 : decode cX6_addedMerges 11 = .ok (.iconst 0, 1) := by decide +kernel
theorem dX6_addedMerges_12 : decode cX6_addedMerges 12 = .ok (.istore_n 2, 1) := by decide +kernel
theorem dX6_addedMerges_13 : decode cX6_addedMerges 13 = .ok (.iload_n 2, 1) := by decide +kernel
theorem dX6_addedMerges_14 : decode cX6_addedMerges 14 = .ok (.iconst 4, 1) := by decide +kernel
theorem dX6_addedMerges_15 : decode cX6_addedMerges 15 = .ok (.if_icmp .ge 30, 3) := by decide +kernel
theorem dX6_addedMerges_18 : decode cX6_addedMerges 18 = .ok (.iload_n 1, 1) := by decide +kernel
theorem dX6_addedMerges_19 : decode cX6_addedMerges 19 = .ok (.aload_n 0, 1) := by decide +kernel
theorem dX6_addedMerges_20 : decode cX6_addedMerges 20 = .ok (.getfield 65, 3) := by decide +kernel
theorem dX6_addedMerges_23 : decode cX6_addedMerges 23 = .ok (.iload_n 2, 1) := by decide +kernel
theorem dX6_addedMerges_24 : decode cX6_addedMerges 24 = .ok (.iaload, 1) := by decide +kernel
theorem dX6_addedMerges_25 : decode cX6_addedMerges 25 = .ok (.aload_n 0, 1) := by decide +kernel
theorem dX6_addedMerges_26 : decode cX6_addedMerges 26 = .ok (.getfield 74, 3) := by decide +kernel
theorem dX6_addedMerges_29 : decode cX6_addedMerges 29 = .ok (.iload_n 2, 1) := by decide +kernel
theorem dX6_addedMerges_30 : decode cX6_addedMerges 30 = .ok (.iaload, 1) := by decide +kernel
theorem dX6_addedMerges_31 : decode cX6_addedMerges 31 = .ok (.iconst (-1), 1) := by decide +kernel
theorem dX6_addedMerges_32 : decode cX6_addedMerges 32 = .ok (.ixor, 1) := by decide +kernel
theorem dX6_addedMerges_33 : decode cX6_addedMerges 33 = .ok (.iand, 1) := by decide +kernel
theorem dX6_addedMerges_34 : decode cX6_addedMerges 34 = .ok (.invokestatic 208, 3) := by decide +kernel
theorem dX6_addedMerges_37 : decode cX6_addedMerges 37 = .ok (.iadd, 1) := by decide +kernel
theorem dX6_addedMerges_38 : decode cX6_addedMerges 38 = .ok (.istore_n 1, 1) := by decide +kernel
theorem dX6_addedMerges_39 : decode cX6_addedMerges 39 = .ok (.iinc 2 1, 3) := by decide +kernel
theorem dX6_addedMerges_42 : decode cX6_addedMerges 42 = .ok (.goto (-29), 3) := by decide +kernel
theorem dX6_addedMerges_45 : decode cX6_addedMerges 45 = .ok (.iload_n 1, 1) := by decide +kernel
theorem dX6_addedMerges_46 : decode cX6_addedMerges 46 = .ok (.ireturn, 1) := by decide +kernel
theorem dX6_removedMerges_0 : decode cX6_removedMerges 0 = .ok (.aload_n 0, 1) := by decide +kernel
theorem dX6_removedMerges_1 : decode cX6_removedMerges 1 = .ok (.invokevirtual 241, 3) := by decide +kernel
theorem dX6_removedMerges_4 : decode cX6_removedMerges 4 = .ok (.ifCond .eq 5, 3) := by decide +kernel
theorem dX6_removedMerges_7 : decode cX6_removedMerges 7 = .ok (.iconst 0, 1) := by decide +kernel
theorem dX6_removedMerges_8 : decode cX6_removedMerges 8 = .ok (.ireturn, 1) := by decide +kernel
theorem dX6_removedMerges_9 : decode cX6_removedMerges 9 = .ok (.iconst 0, 1) := by decide +kernel
theorem dX6_removedMerges_10 : decode cX6_removedMerges 10 = .ok (.istore_n 1, 1) := by decide +kernel
theorem dX6_removedMerges_11 : decode cX6_removedMerges 11 = .ok (.iconst 0, 1) := by decide +kernel
theorem dX6_removedMerges_12 : decode cX6_removedMerges 12 = .ok (.istore_n 2, 1) := by decide +kernel
theorem dX6_removedMerges_13 : decode cX6_removedMerges 13 = .ok (.iload_n 2, 1) := by decide +kernel
theorem dX6_removedMerges_14 : decode cX6_removedMerges 14 = .ok (.iconst 4, 1) := by decide +kernel
theorem dX6_removedMerges_15 : decode cX6_removedMerges 15 = .ok (.if_icmp .ge 30, 3) := by decide +kernel
theorem dX6_removedMerges_18 : decode cX6_removedMerges 18 = .ok (.iload_n 1, 1) := by decide +kernel
theorem dX6_removedMerges_19 : decode cX6_removedMerges 19 = .ok (.aload_n 0, 1) := by decide +kernel
theorem dX6_removedMerges_20 : decode cX6_removedMerges 20 = .ok (.getfield 74, 3) := by decide +kernel
theorem dX6_removedMerges_23 : decode cX6_removedMerges 23 = .ok (.iload_n 2, 1) := by decide +kernel
theorem dX6_removedMerges_24 : decode cX6_removedMerges 24 = .ok (.iaload, 1) := by decide +kernel
theorem dX6_removedMerges_25 : decode cX6_removedMerges 25 = .ok (.aload_n 0, 1) := by decide +kernel
theorem dX6_removedMerges_26 : decode cX6_removedMerges 26 = .ok (.getfield 65, 3) := by decide +kernel
theorem dX6_removedMerges_29 : decode cX6_removedMerges 29 = .ok (.iload_n 2, 1) := by decide +kernel
theorem dX6_removedMerges_30 : decode cX6_removedMerges 30 = .ok (.iaload, 1) := by decide +kernel
theorem dX6_removedMerges_31 : decode cX6_removedMerges 31 = .ok (.iconst (-1), 1) := by decide +kernel
theorem dX6_removedMerges_32 : decode cX6_removedMerges 32 = .ok (.ixor, 1) := by decide +kernel
theorem dX6_removedMerges_33 : decode cX6_removedMerges 33 = .ok (.iand, 1) := by decide +kernel
theorem dX6_removedMerges_34 : decode cX6_removedMerges 34 = .ok (.invokestatic 208, 3) := by decide +kernel
theorem dX6_removedMerges_37 : decode cX6_removedMerges 37 = .ok (.iadd, 1) := by decide +kernel
theorem dX6_removedMerges_38 : decode cX6_removedMerges 38 = .ok (.istore_n 1, 1) := by decide +kernel
theorem dX6_removedMerges_39 : decode cX6_removedMerges 39 = .ok (.iinc 2 1, 3) := by decide +kernel
theorem dX6_removedMerges_42 : decode cX6_removedMerges 42 = .ok (.goto (-29), 3) := by decide +kernel
theorem dX6_removedMerges_45 : decode cX6_removedMerges 45 = .ok (.iload_n 1, 1) := by decide +kernel
theorem dX6_removedMerges_46 : decode cX6_removedMerges 46 = .ok (.ireturn, 1) := by decide +kernel
theorem dX6_changedUses_0 : decode cX6_changedUses 0 = .ok (.aload_n 0, 1) := by decide +kernel
theorem dX6_changedUses_1 : decode cX6_changedUses 1 = .ok (.invokevirtual 241, 3) := by decide +kernel
theorem dX6_changedUses_4 : decode cX6_changedUses 4 = .ok (.ifCond .eq 5, 3) := by decide +kernel
theorem dX6_changedUses_7 : decode cX6_changedUses 7 = .ok (.iconst 0, 1) := by decide +kernel
theorem dX6_changedUses_8 : decode cX6_changedUses 8 = .ok (.ireturn, 1) := by decide +kernel
theorem dX6_changedUses_9 : decode cX6_changedUses 9 = .ok (.iconst 0, 1) := by decide +kernel
theorem dX6_changedUses_10 : decode cX6_changedUses 10 = .ok (.istore_n 1, 1) := by decide +kernel
theorem dX6_changedUses_11 : decode cX6_changedUses 11 = .ok (.iconst 0, 1) := by decide +kernel
theorem dX6_changedUses_12 : decode cX6_changedUses 12 = .ok (.istore_n 2, 1) := by decide +kernel
theorem dX6_changedUses_13 : decode cX6_changedUses 13 = .ok (.iload_n 2, 1) := by decide +kernel
theorem dX6_changedUses_14 : decode cX6_changedUses 14 = .ok (.aload_n 0, 1) := by decide +kernel
theorem dX6_changedUses_15 : decode cX6_changedUses 15 = .ok (.getfield 7, 3) := by decide +kernel
theorem dX6_changedUses_18 : decode cX6_changedUses 18 = .ok (.if_icmp .ge 126, 3) := by decide +kernel
theorem dX6_changedUses_21 : decode cX6_changedUses 21 = .ok (.iconst 0, 1) := by decide +kernel
theorem dX6_changedUses_22 : decode cX6_changedUses 22 = .ok (.istore_n 3, 1) := by decide +kernel
theorem dX6_changedUses_23 : decode cX6_changedUses 23 = .ok (.iload_n 3, 1) := by decide +kernel
theorem dX6_changedUses_24 : decode cX6_changedUses 24 = .ok (.aload_n 0, 1) := by decide +kernel
theorem dX6_changedUses_25 : decode cX6_changedUses 25 = .ok (.getfield 13, 3) := by decide +kernel
theorem dX6_changedUses_28 : decode cX6_changedUses 28 = .ok (.iload_n 2, 1) := by decide +kernel
theorem dX6_changedUses_29 : decode cX6_changedUses 29 = .ok (.iaload, 1) := by decide +kernel
theorem dX6_changedUses_30 : decode cX6_changedUses 30 = .ok (.if_icmp .ge 108, 3) := by decide +kernel
theorem dX6_changedUses_33 : decode cX6_changedUses 33 = .ok (.aload_n 0, 1) := by decide +kernel
theorem dX6_changedUses_34 : decode cX6_changedUses 34 = .ok (.getfield 155, 3) := by decide +kernel
theorem dX6_changedUses_37 : decode cX6_changedUses 37 = .ok (.iload_n 2, 1) := by decide +kernel
theorem dX6_changedUses_38 : decode cX6_changedUses 38 = .ok (.invokestatic 158, 3) := by decide +kernel
theorem dX6_changedUses_41 : decode cX6_changedUses 41 = .ok (.ifCond .eq 97, 3) := by decide +kernel
theorem dX6_changedUses_44 : decode cX6_changedUses 44 = .ok (.aload_n 0, 1) := by decide +kernel
theorem dX6_changedUses_45 : decode cX6_changedUses 45 = .ok (.getfield 22, 3) := by decide +kernel
theorem dX6_changedUses_48 : decode cX6_changedUses 48 = .ok (.iload_n 2, 1) := by decide +kernel
theorem dX6_changedUses_49 : decode cX6_changedUses 49 = .ok (.aaload, 1) := by decide +kernel
theorem dX6_changedUses_50 : decode cX6_changedUses 50 = .ok (.iload_n 3, 1) := by decide +kernel
theorem dX6_changedUses_51 : decode cX6_changedUses 51 = .ok (.iaload, 1) := by decide +kernel
theorem dX6_changedUses_52 : decode cX6_changedUses 52 = .ok (.bipush 10, 2) := by decide +kernel
theorem dX6_changedUses_54 : decode cX6_changedUses 54 = .ok (.if_icmp .lt 41, 3) := by decide +kernel
theorem dX6_changedUses_57 : decode cX6_changedUses 57 = .ok (.aload_n 0, 1) := by decide +kernel
theorem dX6_changedUses_58 : decode cX6_changedUses 58 = .ok (.getfield 77, 3) := by decide +kernel
theorem dX6_changedUses_61 : decode cX6_changedUses 61 = .ok (.iload_n 2, 1) := by decide +kernel
theorem dX6_changedUses_62 : decode cX6_changedUses 62 = .ok (.aaload, 1) := by decide +kernel
theorem dX6_changedUses_63 : decode cX6_changedUses 63 = .ok (.iload_n 3, 1) := by decide +kernel
theorem dX6_changedUses_64 : decode cX6_changedUses 64 = .ok (.iaload, 1) := by decide +kernel
theorem dX6_changedUses_65 : decode cX6_changedUses 65 = .ok (.ifCond .lt 30, 3) := by decide +kernel
theorem dX6_changedUses_68 : decode cX6_changedUses 68 = .ok (.aload_n 0, 1) := by decide +kernel
theorem dX6_changedUses_69 : decode cX6_changedUses 69 = .ok (.getfield 77, 3) := by decide +kernel
theorem dX6_changedUses_72 : decode cX6_changedUses 72 = .ok (.iload_n 2, 1) := by decide +kernel
theorem dX6_changedUses_73 : decode cX6_changedUses 73 = .ok (.aaload, 1) := by decide +kernel
theorem dX6_changedUses_74 : decode cX6_changedUses 74 = .ok (.iload_n 3, 1) := by decide +kernel
theorem dX6_changedUses_75 : decode cX6_changedUses 75 = .ok (.iaload, 1) := by decide +kernel
theorem dX6_changedUses_76 : decode cX6_changedUses 76 = .ok (.sipush 10000, 3) := by decide +kernel
theorem dX6_changedUses_79 : decode cX6_changedUses 79 = .ok (.idiv, 1) := by decide +kernel
theorem dX6_changedUses_80 : decode cX6_changedUses 80 = .ok (.aload_n 0, 1) := by decide +kernel
theorem dX6_changedUses_81 : decode cX6_changedUses 81 = .ok (.getfield 22, 3) := by decide +kernel
theorem dX6_changedUses_84 : decode cX6_changedUses 84 = .ok (.iload_n 2, 1) := by decide +kernel
theorem dX6_changedUses_85 : decode cX6_changedUses 85 = .ok (.aaload, 1) := by decide +kernel
theorem dX6_changedUses_86 : decode cX6_changedUses 86 = .ok (.iload_n 3, 1) := by decide +kernel
theorem dX6_changedUses_87 : decode cX6_changedUses 87 = .ok (.iaload, 1) := by decide +kernel
theorem dX6_changedUses_88 : decode cX6_changedUses 88 = .ok (.if_icmp .ne 7, 3) := by decide +kernel
theorem dX6_changedUses_91 : decode cX6_changedUses 91 = .ok (.iconst 1, 1) := by decide +kernel
theorem dX6_changedUses_92 : decode cX6_changedUses 92 = .ok (.goto 4, 3) := by decide +kernel
theorem dX6_changedUses_95 : decode cX6_changedUses 95 = .ok (.iconst 0, 1) := by decide +kernel
theorem dX6_changedUses_96 : decode cX6_changedUses 96 = .ok (.istore 4, 2) := by decide +kernel
theorem dX6_changedUses_98 : decode cX6_changedUses 98 = .ok (.iload_n 1, 1) := by decide +kernel
theorem dX6_changedUses_99 : decode cX6_changedUses 99 = .ok (.iload 4, 2) := by decide +kernel
theorem dX6_changedUses_101 : decode cX6_changedUses 101 = .ok (.ifCond .eq 28, 3) := by decide +kernel
theorem dX6_changedUses_104 : decode cX6_changedUses 104 = .ok (.aload_n 0, 1) := by decide +kernel
theorem dX6_changedUses_105 : decode cX6_changedUses 105 = .ok (.getfield 77, 3) := by decide +kernel
theorem dX6_changedUses_108 : decode cX6_changedUses 108 = .ok (.iload_n 2, 1) := by decide +kernel
theorem dX6_changedUses_109 : decode cX6_changedUses 109 = .ok (.aaload, 1) := by decide +kernel
theorem dX6_changedUses_110 : decode cX6_changedUses 110 = .ok (.iload_n 3, 1) := by decide +kernel
theorem dX6_changedUses_111 : decode cX6_changedUses 111 = .ok (.iaload, 1) := by decide +kernel
theorem dX6_changedUses_112 : decode cX6_changedUses 112 = .ok (.sipush 10000, 3) := by decide +kernel
theorem dX6_changedUses_115 : decode cX6_changedUses 115 = .ok (.irem, 1) := by decide +kernel
theorem dX6_changedUses_116 : decode cX6_changedUses 116 = .ok (.aload_n 0, 1) := by decide +kernel
theorem dX6_changedUses_117 : decode cX6_changedUses 117 = .ok (.iload_n 2, 1) := by decide +kernel
theorem dX6_changedUses_118 : decode cX6_changedUses 118 = .ok (.iload_n 3, 1) := by decide +kernel
theorem dX6_changedUses_119 : decode cX6_changedUses 119 = .ok (.invokevirtual 216, 3) := by decide +kernel
theorem dX6_changedUses_122 : decode cX6_changedUses 122 = .ok (.if_icmp .eq 7, 3) := by decide +kernel
theorem dX6_changedUses_125 : decode cX6_changedUses 125 = .ok (.iconst 1, 1) := by decide +kernel
theorem dX6_changedUses_126 : decode cX6_changedUses 126 = .ok (.goto 4, 3) := by decide +kernel
theorem dX6_changedUses_129 : decode cX6_changedUses 129 = .ok (.iconst 0, 1) := by decide +kernel
theorem dX6_changedUses_130 : decode cX6_changedUses 130 = .ok (.iadd, 1) := by decide +kernel
theorem dX6_changedUses_131 : decode cX6_changedUses 131 = .ok (.istore_n 1, 1) := by decide +kernel
theorem dX6_changedUses_132 : decode cX6_changedUses 132 = .ok (.iinc 3 1, 3) := by decide +kernel
theorem dX6_changedUses_135 : decode cX6_changedUses 135 = .ok (.goto (-112), 3) := by decide +kernel
theorem dX6_changedUses_138 : decode cX6_changedUses 138 = .ok (.iinc 2 1, 3) := by decide +kernel
theorem dX6_changedUses_141 : decode cX6_changedUses 141 = .ok (.goto (-128), 3) := by decide +kernel
theorem dX6_changedUses_144 : decode cX6_changedUses 144 = .ok (.iload_n 1, 1) := by decide +kernel
theorem dX6_changedUses_145 : decode cX6_changedUses 145 = .ok (.ireturn, 1) := by decide +kernel
theorem dX6_newlyReachable_0 : decode cX6_newlyReachable 0 = .ok (.aload_n 0, 1) := by decide +kernel
theorem dX6_newlyReachable_1 : decode cX6_newlyReachable 1 = .ok (.invokevirtual 241, 3) := by decide +kernel
theorem dX6_newlyReachable_4 : decode cX6_newlyReachable 4 = .ok (.ifCond .eq 7, 3) := by decide +kernel
theorem dX6_newlyReachable_7 : decode cX6_newlyReachable 7 = .ok (.iconst 0, 1) := by decide +kernel
theorem dX6_newlyReachable_8 : decode cX6_newlyReachable 8 = .ok (.goto 14, 3) := by decide +kernel
theorem dX6_newlyReachable_11 : decode cX6_newlyReachable 11 = .ok (.aload_n 0, 1) := by decide +kernel
theorem dX6_newlyReachable_12 : decode cX6_newlyReachable 12 = .ok (.getfield 155, 3) := by decide +kernel
theorem dX6_newlyReachable_15 : decode cX6_newlyReachable 15 = .ok (.aload_n 0, 1) := by decide +kernel
theorem dX6_newlyReachable_16 : decode cX6_newlyReachable 16 = .ok (.getfield 238, 3) := by decide +kernel
theorem dX6_newlyReachable_19 : decode cX6_newlyReachable 19 = .ok (.iconst (-1), 1) := by decide +kernel
theorem dX6_newlyReachable_20 : decode cX6_newlyReachable 20 = .ok (.ixor, 1) := by decide +kernel
theorem dX6_newlyReachable_21 : decode cX6_newlyReachable 21 = .ok (.iand, 1) := by decide +kernel
theorem dX6_newlyReachable_22 : decode cX6_newlyReachable 22 = .ok (.ireturn, 1) := by decide +kernel
theorem dX6_undo_0 : decode cX6_undo 0 = .ok (.aload_n 0, 1) := by decide +kernel
theorem dX6_undo_1 : decode cX6_undo 1 = .ok (.iconst 1, 1) := by decide +kernel
theorem dX6_undo_2 : decode cX6_undo 2 = .ok (.aload_n 0, 1) := by decide +kernel
theorem dX6_undo_3 : decode cX6_undo 3 = .ok (.getfield 90, 3) := by decide +kernel
theorem dX6_undo_6 : decode cX6_undo 6 = .ok (.ifCond .ne 7, 3) := by decide +kernel
theorem dX6_undo_9 : decode cX6_undo 9 = .ok (.iconst 1, 1) := by decide +kernel
theorem dX6_undo_10 : decode cX6_undo 10 = .ok (.goto 4, 3) := by decide +kernel
theorem dX6_undo_13 : decode cX6_undo 13 = .ok (.iconst 0, 1) := by decide +kernel
theorem dX6_undo_14 : decode cX6_undo 14 = .ok (.invokevirtual 100, 3) := by decide +kernel
theorem dX6_undo_17 : decode cX6_undo 17 = .ok (.ifCond .eq 5, 3) := by decide +kernel
theorem dX6_undo_20 : decode cX6_undo 20 = .ok (.iconst 0, 1) := by decide +kernel
theorem dX6_undo_21 : decode cX6_undo 21 = .ok (.ireturn, 1) := by decide +kernel
theorem dX6_undo_22 : decode cX6_undo 22 = .ok (.aload_n 0, 1) := by decide +kernel
theorem dX6_undo_23 : decode cX6_undo 23 = .ok (.dup, 1) := by decide +kernel
theorem dX6_undo_24 : decode cX6_undo 24 = .ok (.getfield 90, 3) := by decide +kernel
theorem dX6_undo_27 : decode cX6_undo 27 = .ok (.iconst 1, 1) := by decide +kernel
theorem dX6_undo_28 : decode cX6_undo 28 = .ok (.isub, 1) := by decide +kernel
theorem dX6_undo_29 : decode cX6_undo 29 = .ok (.putfield 90, 3) := by decide +kernel
theorem dX6_undo_32 : decode cX6_undo 32 = .ok (.aload_n 0, 1) := by decide +kernel
theorem dX6_undo_33 : decode cX6_undo 33 = .ok (.aload_n 0, 1) := by decide +kernel
theorem dX6_undo_34 : decode cX6_undo 34 = .ok (.getfield 28, 3) := by decide +kernel
theorem dX6_undo_37 : decode cX6_undo 37 = .ok (.aload_n 0, 1) := by decide +kernel
theorem dX6_undo_38 : decode cX6_undo 38 = .ok (.getfield 90, 3) := by decide +kernel
theorem dX6_undo_41 : decode cX6_undo 41 = .ok (.aaload, 1) := by decide +kernel
theorem dX6_undo_42 : decode cX6_undo 42 = .ok (.invokevirtual 235, 3) := by decide +kernel
theorem dX6_undo_45 : decode cX6_undo 45 = .ok (.aload_n 0, 1) := by decide +kernel
theorem dX6_undo_46 : decode cX6_undo 46 = .ok (.iconst 0, 1) := by decide +kernel
theorem dX6_undo_47 : decode cX6_undo 47 = .ok (.putfield 97, 3) := by decide +kernel
theorem dX6_undo_50 : decode cX6_undo 50 = .ok (.aload_n 0, 1) := by decide +kernel
theorem dX6_undo_51 : decode cX6_undo 51 = .ok (.getfield 90, 3) := by decide +kernel
theorem dX6_undo_54 : decode cX6_undo 54 = .ok (.ireturn, 1) := by decide +kernel
theorem dX6_end_0 : decode cX6_end 0 = .ok (.aload_n 0, 1) := by decide +kernel
theorem dX6_end_1 : decode cX6_end 1 = .ok (.getfield 97, 3) := by decide +kernel
theorem dX6_end_4 : decode cX6_end 4 = .ok (.ifCond .ne 7, 3) := by decide +kernel
theorem dX6_end_7 : decode cX6_end 7 = .ok (.iconst 0, 1) := by decide +kernel
theorem dX6_end_8 : decode cX6_end 8 = .ok (.goto 12, 3) := by decide +kernel
theorem dX6_end_11 : decode cX6_end 11 = .ok (.aload_n 0, 1) := by decide +kernel
theorem dX6_end_12 : decode cX6_end 12 = .ok (.getfield 80, 3) := by decide +kernel
theorem dX6_end_15 : decode cX6_end 15 = .ok (.aload_n 0, 1) := by decide +kernel
theorem dX6_end_16 : decode cX6_end 16 = .ok (.getfield 97, 3) := by decide +kernel
theorem dX6_end_19 : decode cX6_end 19 = .ok (.iaload, 1) := by decide +kernel
theorem dX6_end_20 : decode cX6_end 20 = .ok (.ireturn, 1) := by decide +kernel
theorem dX6_walk_0 : decode cX6_walk 0 = .ok (.aload_n 0, 1) := by decide +kernel
theorem dX6_walk_1 : decode cX6_walk 1 = .ok (.iconst 1, 1) := by decide +kernel
theorem dX6_walk_2 : decode cX6_walk 2 = .ok (.aload_n 0, 1) := by decide +kernel
theorem dX6_walk_3 : decode cX6_walk 3 = .ok (.getfield 97, 3) := by decide +kernel
theorem dX6_walk_6 : decode cX6_walk 6 = .ok (.bipush 30, 2) := by decide +kernel
theorem dX6_walk_8 : decode cX6_walk 8 = .ok (.if_icmp .ne 7, 3) := by decide +kernel
theorem dX6_walk_11 : decode cX6_walk 11 = .ok (.iconst 1, 1) := by decide +kernel
theorem dX6_walk_12 : decode cX6_walk 12 = .ok (.goto 4, 3) := by decide +kernel
theorem dX6_walk_15 : decode cX6_walk 15 = .ok (.iconst 0, 1) := by decide +kernel
theorem dX6_walk_16 : decode cX6_walk 16 = .ok (.invokevirtual 100, 3) := by decide +kernel
theorem dX6_walk_19 : decode cX6_walk 19 = .ok (.ifCond .ne 35, 3) := by decide +kernel
theorem dX6_walk_22 : decode cX6_walk 22 = .ok (.aload_n 0, 1) := by decide +kernel
theorem dX6_walk_23 : decode cX6_walk 23 = .ok (.iconst 2, 1) := by decide +kernel
theorem dX6_walk_24 : decode cX6_walk 24 = .ok (.iload_n 1, 1) := by decide +kernel
theorem dX6_walk_25 : decode cX6_walk 25 = .ok (.iconst 0, 1) := by decide +kernel
theorem dX6_walk_26 : decode cX6_walk 26 = .ok (.aload_n 0, 1) := by decide +kernel
theorem dX6_walk_27 : decode cX6_walk 27 = .ok (.getfield 17, 3) := by decide +kernel
theorem dX6_walk_30 : decode cX6_walk 30 = .ok (.aload_n 0, 1) := by decide +kernel
theorem dX6_walk_31 : decode cX6_walk 31 = .ok (.invokevirtual 245, 3) := by decide +kernel
theorem dX6_walk_34 : decode cX6_walk 34 = .ok (.iaload, 1) := by decide +kernel
theorem dX6_walk_35 : decode cX6_walk 35 = .ok (.iconst 1, 1) := by decide +kernel
theorem dX6_walk_36 : decode cX6_walk 36 = .ok (.isub, 1) := by decide +kernel
theorem dX6_walk_37 : decode cX6_walk 37 = .ok (.invokestatic 86, 3) := by decide +kernel
theorem dX6_walk_40 : decode cX6_walk 40 = .ok (.ifCond .ne 7, 3) := by decide +kernel
theorem dX6_walk_43 : decode cX6_walk 43 = .ok (.iconst 1, 1) := by decide +kernel
theorem dX6_walk_44 : decode cX6_walk 44 = .ok (.goto 4, 3) := by decide +kernel
theorem dX6_walk_47 : decode cX6_walk 47 = .ok (.iconst 0, 1) := by decide +kernel
theorem dX6_walk_48 : decode cX6_walk 48 = .ok (.invokevirtual 100, 3) := by decide +kernel
theorem dX6_walk_51 : decode cX6_walk 51 = .ok (.ifCond .eq 5, 3) := by decide +kernel
theorem dX6_walk_54 : decode cX6_walk 54 = .ok (.iconst 0, 1) := by decide +kernel
theorem dX6_walk_55 : decode cX6_walk 55 = .ok (.ireturn, 1) := by decide +kernel
theorem dX6_walk_56 : decode cX6_walk 56 = .ok (.aload_n 0, 1) := by decide +kernel
theorem dX6_walk_57 : decode cX6_walk 57 = .ok (.getfield 25, 3) := by decide +kernel
theorem dX6_walk_60 : decode cX6_walk 60 = .ok (.aload_n 0, 1) := by decide +kernel
theorem dX6_walk_61 : decode cX6_walk 61 = .ok (.invokevirtual 245, 3) := by decide +kernel
theorem dX6_walk_64 : decode cX6_walk 64 = .ok (.aaload, 1) := by decide +kernel
theorem dX6_walk_65 : decode cX6_walk 65 = .ok (.iload_n 1, 1) := by decide +kernel
theorem dX6_walk_66 : decode cX6_walk 66 = .ok (.iaload, 1) := by decide +kernel
theorem dX6_walk_67 : decode cX6_walk 67 = .ok (.istore_n 2, 1) := by decide +kernel
theorem dX6_walk_68 : decode cX6_walk 68 = .ok (.aload_n 0, 1) := by decide +kernel
theorem dX6_walk_69 : decode cX6_walk 69 = .ok (.dup, 1) := by decide +kernel
theorem dX6_walk_70 : decode cX6_walk 70 = .ok (.getfield 97, 3) := by decide +kernel
theorem dX6_walk_73 : decode cX6_walk 73 = .ok (.iconst 1, 1) := by decide +kernel
theorem dX6_walk_74 : decode cX6_walk 74 = .ok (.iadd, 1) := by decide +kernel
theorem dX6_walk_75 : decode cX6_walk 75 = .ok (.putfield 97, 3) := by decide +kernel
theorem dX6_walk_78 : decode cX6_walk 78 = .ok (.aload_n 0, 1) := by decide +kernel
theorem dX6_walk_79 : decode cX6_walk 79 = .ok (.getfield 80, 3) := by decide +kernel
theorem dX6_walk_82 : decode cX6_walk 82 = .ok (.aload_n 0, 1) := by decide +kernel
theorem dX6_walk_83 : decode cX6_walk 83 = .ok (.getfield 97, 3) := by decide +kernel
theorem dX6_walk_86 : decode cX6_walk 86 = .ok (.iload_n 2, 1) := by decide +kernel
theorem dX6_walk_87 : decode cX6_walk 87 = .ok (.iastore, 1) := by decide +kernel
theorem dX6_walk_88 : decode cX6_walk 88 = .ok (.iload_n 2, 1) := by decide +kernel
theorem dX6_walk_89 : decode cX6_walk 89 = .ok (.ireturn, 1) := by decide +kernel
theorem dX6_clearWalk_0 : decode cX6_clearWalk 0 = .ok (.aload_n 0, 1) := by decide +kernel
theorem dX6_clearWalk_1 : decode cX6_clearWalk 1 = .ok (.iconst 0, 1) := by decide +kernel
theorem dX6_clearWalk_2 : decode cX6_clearWalk 2 = .ok (.putfield 83, 3) := by decide +kernel
theorem dX6_clearWalk_5 : decode cX6_clearWalk 5 = .ok (.aload_n 0, 1) := by decide +kernel
theorem dX6_clearWalk_6 : decode cX6_clearWalk 6 = .ok (.getfield 97, 3) := by decide +kernel
theorem dX6_clearWalk_9 : decode cX6_clearWalk 9 = .ok (.istore_n 1, 1) := by decide +kernel
theorem dX6_clearWalk_10 : decode cX6_clearWalk 10 = .ok (.aload_n 0, 1) := by decide +kernel
theorem dX6_clearWalk_11 : decode cX6_clearWalk 11 = .ok (.iconst 0, 1) := by decide +kernel
theorem dX6_clearWalk_12 : decode cX6_clearWalk 12 = .ok (.putfield 97, 3) := by decide +kernel
theorem dX6_clearWalk_15 : decode cX6_clearWalk 15 = .ok (.iload_n 1, 1) := by decide +kernel
theorem dX6_clearWalk_16 : decode cX6_clearWalk 16 = .ok (.ireturn, 1) := by decide +kernel
theorem dX6_walkEnd_0 : decode cX6_walkEnd 0 = .ok (.aload_n 0, 1) := by decide +kernel
theorem dX6_walkEnd_1 : decode cX6_walkEnd 1 = .ok (.iconst 0, 1) := by decide +kernel
theorem dX6_walkEnd_2 : decode cX6_walkEnd 2 = .ok (.putfield 83, 3) := by decide +kernel
theorem dX6_walkEnd_5 : decode cX6_walkEnd 5 = .ok (.aload_n 0, 1) := by decide +kernel
theorem dX6_walkEnd_6 : decode cX6_walkEnd 6 = .ok (.invokevirtual 245, 3) := by decide +kernel
theorem dX6_walkEnd_9 : decode cX6_walkEnd 9 = .ok (.ireturn, 1) := by decide +kernel
theorem dX6_lastOnWalk_0 : decode cX6_lastOnWalk 0 = .ok (.aload_n 0, 1) := by decide +kernel
theorem dX6_lastOnWalk_1 : decode cX6_lastOnWalk 1 = .ok (.iconst 1, 1) := by decide +kernel
theorem dX6_lastOnWalk_2 : decode cX6_lastOnWalk 2 = .ok (.iload_n 1, 1) := by decide +kernel
theorem dX6_lastOnWalk_3 : decode cX6_lastOnWalk 3 = .ok (.invokestatic 202, 3) := by decide +kernel
theorem dX6_lastOnWalk_6 : decode cX6_lastOnWalk 6 = .ok (.ifCond .ne 7, 3) := by decide +kernel
theorem dX6_lastOnWalk_9 : decode cX6_lastOnWalk 9 = .ok (.iconst 1, 1) := by decide +kernel
theorem dX6_lastOnWalk_10 : decode cX6_lastOnWalk 10 = .ok (.goto 4, 3) := by decide +kernel
theorem dX6_lastOnWalk_13 : decode cX6_lastOnWalk 13 = .ok (.iconst 0, 1) := by decide +kernel
theorem dX6_lastOnWalk_14 : decode cX6_lastOnWalk 14 = .ok (.invokevirtual 100, 3) := by decide +kernel
theorem dX6_lastOnWalk_17 : decode cX6_lastOnWalk 17 = .ok (.ifCond .eq 5, 3) := by decide +kernel
theorem dX6_lastOnWalk_20 : decode cX6_lastOnWalk 20 = .ok (.iconst 0, 1) := by decide +kernel
theorem dX6_lastOnWalk_21 : decode cX6_lastOnWalk 21 = .ok (.ireturn, 1) := by decide +kernel
theorem dX6_lastOnWalk_22 : decode cX6_lastOnWalk 22 = .ok (.sipush 2000, 3) := by decide +kernel
theorem dX6_lastOnWalk_25 : decode cX6_lastOnWalk 25 = .ok (.istore_n 2, 1) := by decide +kernel
theorem dX6_lastOnWalk_26 : decode cX6_lastOnWalk 26 = .ok (.iconst 0, 1) := by decide +kernel
theorem dX6_lastOnWalk_27 : decode cX6_lastOnWalk 27 = .ok (.istore_n 3, 1) := by decide +kernel
theorem dX6_lastOnWalk_28 : decode cX6_lastOnWalk 28 = .ok (.iload_n 3, 1) := by decide +kernel
theorem dX6_lastOnWalk_29 : decode cX6_lastOnWalk 29 = .ok (.aload_n 0, 1) := by decide +kernel
theorem dX6_lastOnWalk_30 : decode cX6_lastOnWalk 30 = .ok (.getfield 97, 3) := by decide +kernel
theorem dX6_lastOnWalk_33 : decode cX6_lastOnWalk 33 = .ok (.if_icmp .ge 59, 3) := by decide +kernel
theorem dX6_lastOnWalk_36 : decode cX6_lastOnWalk 36 = .ok (.iload_n 3, 1) := by decide +kernel
theorem dX6_lastOnWalk_37 : decode cX6_lastOnWalk 37 = .ok (.ifCond .ne 7, 3) := by decide +kernel
theorem dX6_lastOnWalk_40 : decode cX6_lastOnWalk 40 = .ok (.iconst 0, 1) := by decide +kernel
theorem dX6_lastOnWalk_41 : decode cX6_lastOnWalk 41 = .ok (.goto 9, 3) := by decide +kernel
theorem dX6_lastOnWalk_44 : decode cX6_lastOnWalk 44 = .ok (.aload_n 0, 1) := by decide +kernel
theorem dX6_lastOnWalk_45 : decode cX6_lastOnWalk 45 = .ok (.getfield 80, 3) := by decide +kernel
theorem dX6_lastOnWalk_48 : decode cX6_lastOnWalk 48 = .ok (.iload_n 3, 1) := by decide +kernel
theorem dX6_lastOnWalk_49 : decode cX6_lastOnWalk 49 = .ok (.iaload, 1) := by decide +kernel
theorem dX6_lastOnWalk_50 : decode cX6_lastOnWalk 50 = .ok (.istore 4, 2) := by decide +kernel
theorem dX6_lastOnWalk_52 : decode cX6_lastOnWalk 52 = .ok (.aload_n 0, 1) := by decide +kernel
theorem dX6_lastOnWalk_53 : decode cX6_lastOnWalk 53 = .ok (.iload 4, 2) := by decide +kernel
theorem dX6_lastOnWalk_55 : decode cX6_lastOnWalk 55 = .ok (.iload_n 1, 1) := by decide +kernel
theorem dX6_lastOnWalk_56 : decode cX6_lastOnWalk 56 = .ok (.aload_n 0, 1) := by decide +kernel
theorem dX6_lastOnWalk_57 : decode cX6_lastOnWalk 57 = .ok (.getfield 13, 3) := by decide +kernel
theorem dX6_lastOnWalk_60 : decode cX6_lastOnWalk 60 = .ok (.iload 4, 2) := by decide +kernel
theorem dX6_lastOnWalk_62 : decode cX6_lastOnWalk 62 = .ok (.iaload, 1) := by decide +kernel
theorem dX6_lastOnWalk_63 : decode cX6_lastOnWalk 63 = .ok (.invokevirtual 164, 3) := by decide +kernel
theorem dX6_lastOnWalk_66 : decode cX6_lastOnWalk 66 = .ok (.istore 5, 2) := by decide +kernel
theorem dX6_lastOnWalk_68 : decode cX6_lastOnWalk 68 = .ok (.iload 5, 2) := by decide +kernel
theorem dX6_lastOnWalk_70 : decode cX6_lastOnWalk 70 = .ok (.ifCond .ge 7, 3) := by decide +kernel
theorem dX6_lastOnWalk_73 : decode cX6_lastOnWalk 73 = .ok (.iload_n 2, 1) := by decide +kernel
theorem dX6_lastOnWalk_74 : decode cX6_lastOnWalk 74 = .ok (.goto 11, 3) := by decide +kernel
theorem dX6_lastOnWalk_77 : decode cX6_lastOnWalk 77 = .ok (.bipush 10, 2) := by decide +kernel
theorem dX6_lastOnWalk_79 : decode cX6_lastOnWalk 79 = .ok (.iload 4, 2) := by decide +kernel
theorem dX6_lastOnWalk_81 : decode cX6_lastOnWalk 81 = .ok (.imul, 1) := by decide +kernel
theorem dX6_lastOnWalk_82 : decode cX6_lastOnWalk 82 = .ok (.iload 5, 2) := by decide +kernel
theorem dX6_lastOnWalk_84 : decode cX6_lastOnWalk 84 = .ok (.iadd, 1) := by decide +kernel
theorem dX6_lastOnWalk_85 : decode cX6_lastOnWalk 85 = .ok (.istore_n 2, 1) := by decide +kernel
theorem dX6_lastOnWalk_86 : decode cX6_lastOnWalk 86 = .ok (.iinc 3 1, 3) := by decide +kernel
theorem dX6_lastOnWalk_89 : decode cX6_lastOnWalk 89 = .ok (.goto (-61), 3) := by decide +kernel
theorem dX6_lastOnWalk_92 : decode cX6_lastOnWalk 92 = .ok (.iload_n 2, 1) := by decide +kernel
theorem dX6_lastOnWalk_93 : decode cX6_lastOnWalk 93 = .ok (.ireturn, 1) := by decide +kernel
theorem dX6_mergesOnWalk_0 : decode cX6_mergesOnWalk 0 = .ok (.aload_n 0, 1) := by decide +kernel
theorem dX6_mergesOnWalk_1 : decode cX6_mergesOnWalk 1 = .ok (.iconst 1, 1) := by decide +kernel
theorem dX6_mergesOnWalk_2 : decode cX6_mergesOnWalk 2 = .ok (.iload_n 1, 1) := by decide +kernel
theorem dX6_mergesOnWalk_3 : decode cX6_mergesOnWalk 3 = .ok (.invokestatic 202, 3) := by decide +kernel
theorem dX6_mergesOnWalk_6 : decode cX6_mergesOnWalk 6 = .ok (.ifCond .ne 7, 3) := by decide +kernel
theorem dX6_mergesOnWalk_9 : decode cX6_mergesOnWalk 9 = .ok (.iconst 1, 1) := by decide +kernel
theorem dX6_mergesOnWalk_10 : decode cX6_mergesOnWalk 10 = .ok (.goto 4, 3) := by decide +kernel
theorem dX6_mergesOnWalk_13 : decode cX6_mergesOnWalk 13 = .ok (.iconst 0, 1) := by decide +kernel
theorem dX6_mergesOnWalk_14 : decode cX6_mergesOnWalk 14 = .ok (.invokevirtual 100, 3) := by decide +kernel
theorem dX6_mergesOnWalk_17 : decode cX6_mergesOnWalk 17 = .ok (.ifCond .eq 5, 3) := by decide +kernel
theorem dX6_mergesOnWalk_20 : decode cX6_mergesOnWalk 20 = .ok (.iconst 0, 1) := by decide +kernel
theorem dX6_mergesOnWalk_21 : decode cX6_mergesOnWalk 21 = .ok (.ireturn, 1) := by decide +kernel
theorem dX6_mergesOnWalk_22 : decode cX6_mergesOnWalk 22 = .ok (.aload_n 0, 1) := by decide +kernel
theorem dX6_mergesOnWalk_23 : decode cX6_mergesOnWalk 23 = .ok (.invokevirtual 196, 3) := by decide +kernel
theorem dX6_mergesOnWalk_26 : decode cX6_mergesOnWalk 26 = .ok (.iconst 0, 1) := by decide +kernel
theorem dX6_mergesOnWalk_27 : decode cX6_mergesOnWalk 27 = .ok (.istore_n 2, 1) := by decide +kernel
theorem dX6_mergesOnWalk_28 : decode cX6_mergesOnWalk 28 = .ok (.iconst 0, 1) := by decide +kernel
theorem dX6_mergesOnWalk_29 : decode cX6_mergesOnWalk 29 = .ok (.istore_n 3, 1) := by decide +kernel
theorem dX6_mergesOnWalk_30 : decode cX6_mergesOnWalk 30 = .ok (.iload_n 3, 1) := by decide +kernel
theorem dX6_mergesOnWalk_31 : decode cX6_mergesOnWalk 31 = .ok (.aload_n 0, 1) := by decide +kernel
theorem dX6_mergesOnWalk_32 : decode cX6_mergesOnWalk 32 = .ok (.getfield 97, 3) := by decide +kernel
theorem dX6_mergesOnWalk_35 : decode cX6_mergesOnWalk 35 = .ok (.if_icmp .gt 43, 3) := by decide +kernel
theorem dX6_mergesOnWalk_38 : decode cX6_mergesOnWalk 38 = .ok (.iload_n 2, 1) := by decide +kernel
theorem dX6_mergesOnWalk_39 : decode cX6_mergesOnWalk 39 = .ok (.aload_n 0, 1) := by decide +kernel
theorem dX6_mergesOnWalk_40 : decode cX6_mergesOnWalk 40 = .ok (.getfield 65, 3) := by decide +kernel
theorem dX6_mergesOnWalk_43 : decode cX6_mergesOnWalk 43 = .ok (.iload_n 1, 1) := by decide +kernel
theorem dX6_mergesOnWalk_44 : decode cX6_mergesOnWalk 44 = .ok (.iaload, 1) := by decide +kernel
theorem dX6_mergesOnWalk_45 : decode cX6_mergesOnWalk 45 = .ok (.iload_n 3, 1) := by decide +kernel
theorem dX6_mergesOnWalk_46 : decode cX6_mergesOnWalk 46 = .ok (.ifCond .ne 7, 3) := by decide +kernel
theorem dX6_mergesOnWalk_49 : decode cX6_mergesOnWalk 49 = .ok (.iconst 0, 1) := by decide +kernel
theorem dX6_mergesOnWalk_50 : decode cX6_mergesOnWalk 50 = .ok (.goto 9, 3) := by decide +kernel
theorem dX6_mergesOnWalk_53 : decode cX6_mergesOnWalk 53 = .ok (.aload_n 0, 1) := by decide +kernel
theorem dX6_mergesOnWalk_54 : decode cX6_mergesOnWalk 54 = .ok (.getfield 80, 3) := by decide +kernel
theorem dX6_mergesOnWalk_57 : decode cX6_mergesOnWalk 57 = .ok (.iload_n 3, 1) := by decide +kernel
theorem dX6_mergesOnWalk_58 : decode cX6_mergesOnWalk 58 = .ok (.iaload, 1) := by decide +kernel
theorem dX6_mergesOnWalk_59 : decode cX6_mergesOnWalk 59 = .ok (.invokestatic 158, 3) := by decide +kernel
theorem dX6_mergesOnWalk_62 : decode cX6_mergesOnWalk 62 = .ok (.ifCond .eq 7, 3) := by decide +kernel
theorem dX6_mergesOnWalk_65 : decode cX6_mergesOnWalk 65 = .ok (.iconst 1, 1) := by decide +kernel
theorem dX6_mergesOnWalk_66 : decode cX6_mergesOnWalk 66 = .ok (.goto 4, 3) := by decide +kernel
theorem dX6_mergesOnWalk_69 : decode cX6_mergesOnWalk 69 = .ok (.iconst 0, 1) := by decide +kernel
theorem dX6_mergesOnWalk_70 : decode cX6_mergesOnWalk 70 = .ok (.iadd, 1) := by decide +kernel
theorem dX6_mergesOnWalk_71 : decode cX6_mergesOnWalk 71 = .ok (.istore_n 2, 1) := by decide +kernel
theorem dX6_mergesOnWalk_72 : decode cX6_mergesOnWalk 72 = .ok (.iinc 3 1, 3) := by decide +kernel
theorem dX6_mergesOnWalk_75 : decode cX6_mergesOnWalk 75 = .ok (.goto (-45), 3) := by decide +kernel
theorem dX6_mergesOnWalk_78 : decode cX6_mergesOnWalk 78 = .ok (.iload_n 2, 1) := by decide +kernel
theorem dX6_mergesOnWalk_79 : decode cX6_mergesOnWalk 79 = .ok (.ireturn, 1) := by decide +kernel
theorem dX6_walks_0 : decode cX6_walks 0 = .ok (.aload_n 0, 1) := by decide +kernel
theorem dX6_walks_1 : decode cX6_walks 1 = .ok (.iconst 1, 1) := by decide +kernel
theorem dX6_walks_2 : decode cX6_walks 2 = .ok (.aload_n 0, 1) := by decide +kernel
theorem dX6_walks_3 : decode cX6_walks 3 = .ok (.iload_n 1, 1) := by decide +kernel
theorem dX6_walks_4 : decode cX6_walks 4 = .ok (.invokevirtual 144, 3) := by decide +kernel
theorem dX6_walks_7 : decode cX6_walks 7 = .ok (.ifCond .ne 7, 3) := by decide +kernel
theorem dX6_walks_10 : decode cX6_walks 10 = .ok (.iconst 1, 1) := by decide +kernel
theorem dX6_walks_11 : decode cX6_walks 11 = .ok (.goto 4, 3) := by decide +kernel
theorem dX6_walks_14 : decode cX6_walks 14 = .ok (.iconst 0, 1) := by decide +kernel
theorem dX6_walks_15 : decode cX6_walks 15 = .ok (.invokevirtual 100, 3) := by decide +kernel
theorem dX6_walks_18 : decode cX6_walks 18 = .ok (.ifCond .ne 26, 3) := by decide +kernel
theorem dX6_walks_21 : decode cX6_walks 21 = .ok (.aload_n 0, 1) := by decide +kernel
theorem dX6_walks_22 : decode cX6_walks 22 = .ok (.iconst 2, 1) := by decide +kernel
theorem dX6_walks_23 : decode cX6_walks 23 = .ok (.iload_n 2, 1) := by decide +kernel
theorem dX6_walks_24 : decode cX6_walks 24 = .ok (.iconst 0, 1) := by decide +kernel
theorem dX6_walks_25 : decode cX6_walks 25 = .ok (.bipush 30, 2) := by decide +kernel
theorem dX6_walks_27 : decode cX6_walks 27 = .ok (.invokestatic 86, 3) := by decide +kernel
theorem dX6_walks_30 : decode cX6_walks 30 = .ok (.ifCond .ne 7, 3) := by decide +kernel
theorem dX6_walks_33 : decode cX6_walks 33 = .ok (.iconst 1, 1) := by decide +kernel
theorem dX6_walks_34 : decode cX6_walks 34 = .ok (.goto 4, 3) := by decide +kernel
theorem dX6_walks_37 : decode cX6_walks 37 = .ok (.iconst 0, 1) := by decide +kernel
theorem dX6_walks_38 : decode cX6_walks 38 = .ok (.invokevirtual 100, 3) := by decide +kernel
theorem dX6_walks_41 : decode cX6_walks 41 = .ok (.ifCond .eq 5, 3) := by decide +kernel
theorem dX6_walks_44 : decode cX6_walks 44 = .ok (.lconst 0, 1) := by decide +kernel
theorem dX6_walks_45 : decode cX6_walks 45 = .ok (.lreturn, 1) := by decide +kernel
theorem dX6_walks_46 : decode cX6_walks 46 = .ok (.bipush 14, 2) := by decide +kernel
theorem dX6_walks_48 : decode cX6_walks 48 = .ok (.newarray .long, 2) := by decide +kernel
theorem dX6_walks_50 : decode cX6_walks 50 = .ok (.astore_n 3, 1) := by decide +kernel
theorem dX6_walks_51 : decode cX6_walks 51 = .ok (.aload_n 3, 1) := by decide +kernel
theorem dX6_walks_52 : decode cX6_walks 52 = .ok (.iconst 0, 1) := by decide +kernel
theorem dX6_walks_53 : decode cX6_walks 53 = .ok (.lconst 1, 1) := by decide +kernel
theorem dX6_walks_54 : decode cX6_walks 54 = .ok (.lastore, 1) := by decide +kernel
theorem dX6_walks_55 : decode cX6_walks 55 = .ok (.iconst 0, 1) := by decide +kernel
theorem dX6_walks_56 : decode cX6_walks 56 = .ok (.istore 4, 2) := by decide +kernel
theorem dX6_walks_58 : decode cX6_walks 58 = .ok (.iload 4, 2) := by decide +kernel
theorem dX6_walks_60 : decode cX6_walks 60 = .ok (.iload_n 2, 1) := by decide +kernel
theorem dX6_walks_61 : decode cX6_walks 61 = .ok (.if_icmp .ge 77, 3) := by decide +kernel
theorem dX6_walks_64 : decode cX6_walks 64 = .ok (.bipush 14, 2) := by decide +kernel
theorem dX6_walks_66 : decode cX6_walks 66 = .ok (.newarray .long, 2) := by decide +kernel
theorem dX6_walks_68 : decode cX6_walks 68 = .ok (.astore 5, 2) := by decide +kernel
theorem dX6_walks_70 : decode cX6_walks 70 = .ok (.iconst 0, 1) := by decide +kernel
theorem dX6_walks_71 : decode cX6_walks 71 = .ok (.istore 6, 2) := by decide +kernel
theorem dX6_walks_73 : decode cX6_walks 73 = .ok (.iload 6, 2) := by decide +kernel
theorem dX6_walks_75 : decode cX6_walks 75 = .ok (.aload_n 0, 1) := by decide +kernel
theorem dX6_walks_76 : decode cX6_walks 76 = .ok (.getfield 7, 3) := by decide +kernel
theorem dX6_walks_79 : decode cX6_walks 79 = .ok (.if_icmp .ge 50, 3) := by decide +kernel
theorem dX6_walks_82 : decode cX6_walks 82 = .ok (.iconst 0, 1) := by decide +kernel
theorem dX6_walks_83 : decode cX6_walks 83 = .ok (.istore 7, 2) := by decide +kernel
theorem dX6_walks_85 : decode cX6_walks 85 = .ok (.iload 7, 2) := by decide +kernel
theorem dX6_walks_87 : decode cX6_walks 87 = .ok (.aload_n 0, 1) := by decide +kernel
theorem dX6_walks_88 : decode cX6_walks 88 = .ok (.getfield 17, 3) := by decide +kernel
theorem dX6_walks_91 : decode cX6_walks 91 = .ok (.iload 6, 2) := by decide +kernel
theorem dX6_walks_93 : decode cX6_walks 93 = .ok (.iaload, 1) := by decide +kernel
theorem dX6_walks_94 : decode cX6_walks 94 = .ok (.if_icmp .ge 29, 3) := by decide +kernel
theorem dX6_walks_97 : decode cX6_walks 97 = .ok (.aload 5, 2) := by decide +kernel
theorem dX6_walks_99 : decode cX6_walks 99 = .ok (.aload_n 0, 1) := by decide +kernel
theorem dX6_walks_100 : decode cX6_walks 100 = .ok (.getfield 25, 3) := by decide +kernel
theorem dX6_walks_103 : decode cX6_walks 103 = .ok (.iload 6, 2) := by decide +kernel
theorem dX6_walks_105 : decode cX6_walks 105 = .ok (.aaload, 1) := by decide +kernel
theorem dX6_walks_106 : decode cX6_walks 106 = .ok (.iload 7, 2) := by decide +kernel
theorem dX6_walks_108 : decode cX6_walks 108 = .ok (.iaload, 1) := by decide +kernel
theorem dX6_walks_109 : decode cX6_walks 109 = .ok (.dup2, 1) := by decide +kernel
theorem dX6_walks_110 : decode cX6_walks 110 = .ok (.laload, 1) := by decide +kernel
theorem dX6_walks_111 : decode cX6_walks 111 = .ok (.aload_n 3, 1) := by decide +kernel
theorem dX6_walks_112 : decode cX6_walks 112 = .ok (.iload 6, 2) := by decide +kernel
theorem dX6_walks_114 : decode cX6_walks 114 = .ok (.laload, 1) := by decide +kernel
theorem dX6_walks_115 : decode cX6_walks 115 = .ok (.ladd, 1) := by decide +kernel
theorem dX6_walks_116 : decode cX6_walks 116 = .ok (.lastore, 1) := by decide +kernel
theorem dX6_walks_117 : decode cX6_walks 117 = .ok (.iinc 7 1, 3) := by decide +kernel
theorem dX6_walks_120 : decode cX6_walks 120 = .ok (.goto (-35), 3) := by decide +kernel
theorem dX6_walks_123 : decode cX6_walks 123 = .ok (.iinc 6 1, 3) := by decide +kernel
theorem dX6_walks_126 : decode cX6_walks 126 = .ok (.goto (-53), 3) := by decide +kernel
theorem dX6_walks_129 : decode cX6_walks 129 = .ok (.aload 5, 2) := by decide +kernel
theorem dX6_walks_131 : decode cX6_walks 131 = .ok (.astore_n 3, 1) := by decide +kernel
theorem dX6_walks_132 : decode cX6_walks 132 = .ok (.iinc 4 1, 3) := by decide +kernel
theorem dX6_walks_135 : decode cX6_walks 135 = .ok (.goto (-77), 3) := by decide +kernel
theorem dX6_walks_138 : decode cX6_walks 138 = .ok (.aload_n 3, 1) := by decide +kernel
theorem dX6_walks_139 : decode cX6_walks 139 = .ok (.iload_n 1, 1) := by decide +kernel
theorem dX6_walks_140 : decode cX6_walks 140 = .ok (.laload, 1) := by decide +kernel
theorem dX6_walks_141 : decode cX6_walks 141 = .ok (.lreturn, 1) := by decide +kernel
theorem dX6_mergeDensity_0 : decode cX6_mergeDensity 0 = .ok (.aload_n 0, 1) := by decide +kernel
theorem dX6_mergeDensity_1 : decode cX6_mergeDensity 1 = .ok (.iconst 0, 1) := by decide +kernel
theorem dX6_mergeDensity_2 : decode cX6_mergeDensity 2 = .ok (.putfield 83, 3) := by decide +kernel
theorem dX6_mergeDensity_5 : decode cX6_mergeDensity 5 = .ok (.aload_n 0, 1) := by decide +kernel
theorem dX6_mergeDensity_6 : decode cX6_mergeDensity 6 = .ok (.invokevirtual 196, 3) := by decide +kernel
theorem dX6_mergeDensity_9 : decode cX6_mergeDensity 9 = .ok (.aload_n 0, 1) := by decide +kernel
theorem dX6_mergeDensity_10 : decode cX6_mergeDensity 10 = .ok (.invokevirtual 212, 3) := by decide +kernel
theorem dX6_mergeDensity_13 : decode cX6_mergeDensity 13 = .ok (.i2d, 1) := by decide +kernel
theorem dX6_mergeDensity_14 : decode cX6_mergeDensity 14 = .ok (.iconst 4, 1) := by decide +kernel
theorem dX6_mergeDensity_15 : decode cX6_mergeDensity 15 = .ok (.aload_n 0, 1) := by decide +kernel
theorem dX6_mergeDensity_16 : decode cX6_mergeDensity 16 = .ok (.getfield 155, 3) := by decide +kernel
theorem dX6_mergeDensity_19 : decode cX6_mergeDensity 19 = .ok (.invokestatic 208, 3) := by decide +kernel
theorem dX6_mergeDensity_22 : decode cX6_mergeDensity 22 = .ok (.imul, 1) := by decide +kernel
theorem dX6_mergeDensity_23 : decode cX6_mergeDensity 23 = .ok (.i2d, 1) := by decide +kernel
theorem dX6_mergeDensity_24 : decode cX6_mergeDensity 24 = .ok (.ddiv, 1) := by decide +kernel
theorem dX6_mergeDensity_25 : decode cX6_mergeDensity 25 = .ok (.dreturn, 1) := by decide +kernel
theorem dX6_save_0 : decode cX6_save 0 = .ok (.aload_n 0, 1) := by decide +kernel
theorem dX6_save_1 : decode cX6_save 1 = .ok (.iconst 0, 1) := by decide +kernel
theorem dX6_save_2 : decode cX6_save 2 = .ok (.putfield 83, 3) := by decide +kernel
theorem dX6_save_5 : decode cX6_save 5 = .ok (.aload_n 0, 1) := by decide +kernel
theorem dX6_save_6 : decode cX6_save 6 = .ok (.iconst 1, 1) := by decide +kernel
theorem dX6_save_7 : decode cX6_save 7 = .ok (.putfield 248, 3) := by decide +kernel
theorem dX6_save_10 : decode cX6_save 10 = .ok (.aload_n 0, 1) := by decide +kernel
theorem dX6_save_11 : decode cX6_save 11 = .ok (.aload_n 0, 1) := by decide +kernel
theorem dX6_save_12 : decode cX6_save 12 = .ok (.getfield 31, 3) := by decide +kernel
theorem dX6_save_15 : decode cX6_save 15 = .ok (.invokevirtual 93, 3) := by decide +kernel
theorem dX6_save_18 : decode cX6_save 18 = .ok (.aload_n 0, 1) := by decide +kernel
theorem dX6_save_19 : decode cX6_save 19 = .ok (.getfield 7, 3) := by decide +kernel
theorem dX6_save_22 : decode cX6_save 22 = .ok (.ireturn, 1) := by decide +kernel
theorem dX6_restore_0 : decode cX6_restore 0 = .ok (.aload_n 0, 1) := by decide +kernel
theorem dX6_restore_1 : decode cX6_restore 1 = .ok (.iconst 1, 1) := by decide +kernel
theorem dX6_restore_2 : decode cX6_restore 2 = .ok (.aload_n 0, 1) := by decide +kernel
theorem dX6_restore_3 : decode cX6_restore 3 = .ok (.getfield 248, 3) := by decide +kernel
theorem dX6_restore_6 : decode cX6_restore 6 = .ok (.ifCond .ne 7, 3) := by decide +kernel
theorem dX6_restore_9 : decode cX6_restore 9 = .ok (.iconst 1, 1) := by decide +kernel
theorem dX6_restore_10 : decode cX6_restore 10 = .ok (.goto 4, 3) := by decide +kernel
theorem dX6_restore_13 : decode cX6_restore 13 = .ok (.iconst 0, 1) := by decide +kernel
theorem dX6_restore_14 : decode cX6_restore 14 = .ok (.invokevirtual 100, 3) := by decide +kernel
theorem dX6_restore_17 : decode cX6_restore 17 = .ok (.ifCond .eq 5, 3) := by decide +kernel
theorem dX6_restore_20 : decode cX6_restore 20 = .ok (.iconst 0, 1) := by decide +kernel
theorem dX6_restore_21 : decode cX6_restore 21 = .ok (.ireturn, 1) := by decide +kernel
theorem dX6_restore_22 : decode cX6_restore 22 = .ok (.aload_n 0, 1) := by decide +kernel
theorem dX6_restore_23 : decode cX6_restore 23 = .ok (.aload_n 0, 1) := by decide +kernel
theorem dX6_restore_24 : decode cX6_restore 24 = .ok (.getfield 31, 3) := by decide +kernel
theorem dX6_restore_27 : decode cX6_restore 27 = .ok (.invokevirtual 235, 3) := by decide +kernel
theorem dX6_restore_30 : decode cX6_restore 30 = .ok (.aload_n 0, 1) := by decide +kernel
theorem dX6_restore_31 : decode cX6_restore 31 = .ok (.iconst 0, 1) := by decide +kernel
theorem dX6_restore_32 : decode cX6_restore 32 = .ok (.putfield 90, 3) := by decide +kernel
theorem dX6_restore_35 : decode cX6_restore 35 = .ok (.aload_n 0, 1) := by decide +kernel
theorem dX6_restore_36 : decode cX6_restore 36 = .ok (.iconst 0, 1) := by decide +kernel
theorem dX6_restore_37 : decode cX6_restore 37 = .ok (.putfield 97, 3) := by decide +kernel
theorem dX6_restore_40 : decode cX6_restore 40 = .ok (.aload_n 0, 1) := by decide +kernel
theorem dX6_restore_41 : decode cX6_restore 41 = .ok (.getfield 7, 3) := by decide +kernel
theorem dX6_restore_44 : decode cX6_restore 44 = .ok (.ireturn, 1) := by decide +kernel
