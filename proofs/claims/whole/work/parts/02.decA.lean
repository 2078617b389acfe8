theorem dX0_init_0 : decode cX0_init 0 = .ok (.aload_n 0, 1) := by decide +kernel
theorem dX0_init_1 : decode cX0_init 1 = .ok (.invokespecial 3, 3) := by decide +kernel
theorem dX0_init_4 : decode cX0_init 4 = .ok (.aload_n 0, 1) := by decide +kernel
theorem dX0_init_5 : decode cX0_init 5 = .ok (.bipush 16, 2) := by decide +kernel
theorem dX0_init_7 : decode cX0_init 7 = .ok (.newarray .long, 2) := by decide +kernel
theorem dX0_init_9 : decode cX0_init 9 = .ok (.putfield 9, 3) := by decide +kernel
theorem dX0_init_12 : decode cX0_init 12 = .ok (.aload_n 0, 1) := by decide +kernel
theorem dX0_init_13 : decode cX0_init 13 = .ok (.bipush 16, 2) := by decide +kernel
theorem dX0_init_15 : decode cX0_init 15 = .ok (.newarray .int, 2) := by decide +kernel
theorem dX0_init_17 : decode cX0_init 17 = .ok (.putfield 15, 3) := by decide +kernel
theorem dX0_init_20 : decode cX0_init 20 = .ok (.aload_n 0, 1) := by decide +kernel
theorem dX0_init_21 : decode cX0_init 21 = .ok (.bipush 39, 2) := by decide +kernel
theorem dX0_init_23 : decode cX0_init 23 = .ok (.newarray .byte, 2) := by decide +kernel
theorem dX0_init_25 : decode cX0_init 25 = .ok (.putfield 19, 3) := by decide +kernel
theorem dX0_init_28 : decode cX0_init 28 = .ok (.aload_n 0, 1) := by decide +kernel
theorem dX0_init_29 : decode cX0_init 29 = .ok (.bipush 39, 2) := by decide +kernel
theorem dX0_init_31 : decode cX0_init 31 = .ok (.newarray .byte, 2) := by decide +kernel
theorem dX0_init_33 : decode cX0_init 33 = .ok (.putfield 23, 3) := by decide +kernel
theorem dX0_init_36 : decode cX0_init 36 = .ok (.aload_n 0, 1) := by decide +kernel
theorem dX0_init_37 : decode cX0_init 37 = .ok (.bipush 40, 2) := by decide +kernel
theorem dX0_init_39 : decode cX0_init 39 = .ok (.newarray .int, 2) := by decide +kernel
theorem dX0_init_41 : decode cX0_init 41 = .ok (.putfield 26, 3) := by decide +kernel
theorem dX0_init_44 : decode cX0_init 44 = .ok (.aload_n 0, 1) := by decide +kernel
theorem dX0_init_45 : decode cX0_init 45 = .ok (.bipush 16, 2) := by decide +kernel
theorem dX0_init_47 : decode cX0_init 47 = .ok (.newarray .int, 2) := by decide +kernel
theorem dX0_init_49 : decode cX0_init 49 = .ok (.putfield 29, 3) := by decide +kernel
theorem dX0_init_52 : decode cX0_init 52 = .ok (.return_, 1) := by decide +kernel
theorem dX0_size_0 : decode cX0_size 0 = .ok (.iconst 0, 1) := by decide +kernel
theorem dX0_size_1 : decode cX0_size 1 = .ok (.istore_n 1, 1) := by decide +kernel
theorem dX0_size_2 : decode cX0_size 2 = .ok (.iconst 0, 1) := by decide +kernel
theorem dX0_size_3 : decode cX0_size 3 = .ok (.istore_n 2, 1) := by decide +kernel
theorem dX0_size_4 : decode cX0_size 4 = .ok (.iload_n 2, 1) := by decide +kernel
theorem dX0_size_5 : decode cX0_size 5 = .ok (.bipush 16, 2) := by decide +kernel
theorem dX0_size_7 : decode cX0_size 7 = .ok (.if_icmp .ge 21, 3) := by decide +kernel
theorem dX0_size_10 : decode cX0_size 10 = .ok (.aload_n 0, 1) := by decide +kernel
theorem dX0_size_11 : decode cX0_size 11 = .ok (.getfield 15, 3) := by decide +kernel
theorem dX0_size_14 : decode cX0_size 14 = .ok (.iload_n 2, 1) := by decide +kernel
theorem dX0_size_15 : decode cX0_size 15 = .ok (.iaload, 1) := by decide +kernel
theorem dX0_size_16 : decode cX0_size 16 = .ok (.ifCond .eq 6, 3) := by decide +kernel
theorem dX0_size_19 : decode cX0_size 19 = .ok (.iinc 1 1, 3) := by decide +kernel
theorem dX0_size_22 : decode cX0_size 22 = .ok (.iinc 2 1, 3) := by decide +kernel
theorem dX0_size_25 : decode cX0_size 25 = .ok (.goto (-21), 3) := by decide +kernel
theorem dX0_size_28 : decode cX0_size 28 = .ok (.iload_n 1, 1) := by decide +kernel
theorem dX0_size_29 : decode cX0_size 29 = .ok (.ireturn, 1) := by decide +kernel
theorem dX0_ask_0 : decode cX0_ask 0 = .ok (.aload_n 0, 1) := by decide +kernel
theorem dX0_ask_1 : decode cX0_ask 1 = .ok (.lload_n 1, 1) := by decide +kernel
theorem dX0_ask_2 : decode cX0_ask 2 = .ok (.iload_n 3, 1) := by decide +kernel
theorem dX0_ask_3 : decode cX0_ask 3 = .ok (.aload_n 0, 1) := by decide +kernel
theorem dX0_ask_4 : decode cX0_ask 4 = .ok (.getfield 19, 3) := by decide +kernel
theorem dX0_ask_7 : decode cX0_ask 7 = .ok (.invokestatic 32, 3) := by decide +kernel
theorem dX0_ask_10 : decode cX0_ask 10 = .ok (.putfield 36, 3) := by decide +kernel
theorem dX0_ask_13 : decode cX0_ask 13 = .ok (.return_, 1) := by decide +kernel
theorem dX0_spell_0 : decode cX0_spell 0 = .ok (.iconst 0, 1) := by decide +kernel
theorem dX0_spell_1 : decode cX0_spell 1 = .ok (.istore 4, 2) := by decide +kernel
theorem dX0_spell_3 : decode cX0_spell 3 = .ok (.iconst 0, 1) := by decide +kernel
theorem dX0_spell_4 : decode cX0_spell 4 = .ok (.istore 5, 2) := by decide +kernel
theorem dX0_spell_6 : decode cX0_spell 6 = .ok (.iload 5, 2) := by decide +kernel
theorem dX0_spell_8 : decode cX0_spell 8 = .ok (.iload_n 2, 1) := by decide +kernel
theorem dX0_spell_9 : decode cX0_spell 9 = .ok (.if_icmp .ge 75, 3) := by decide +kernel
theorem dX0_spell_12 : decode cX0_spell 12 = .ok (.iload 5, 2) := by decide +kernel
theorem dX0_spell_14 : decode cX0_spell 14 = .ok (.ifCond .le 11, 3) := by decide +kernel
theorem dX0_spell_17 : decode cX0_spell 17 = .ok (.aload_n 3, 1) := by decide +kernel
theorem dX0_spell_18 : decode cX0_spell 18 = .ok (.iload 4, 2) := by decide +kernel
theorem dX0_spell_20 : decode cX0_spell 20 = .ok (.iinc 4 1, 3) := by decide +kernel
theorem dX0_spell_23 : decode cX0_spell 23 = .ok (.iconst 2, 1) := by decide +kernel
theorem dX0_spell_24 : decode cX0_spell 24 = .ok (.bastore, 1) := by decide +kernel
theorem dX0_spell_25 : decode cX0_spell 25 = .ok (.getstatic 40, 3) := by decide +kernel
theorem dX0_spell_28 : decode cX0_spell 28 = .ok (.lload_n 0, 1) := by decide +kernel
theorem dX0_spell_29 : decode cX0_spell 29 = .ok (.iload 5, 2) := by decide +kernel
theorem dX0_spell_31 : decode cX0_spell 31 = .ok (.invokestatic 43, 3) := by decide +kernel
theorem dX0_spell_34 : decode cX0_spell 34 = .ok (.bipush 97, 2) := by decide +kernel
theorem dX0_spell_36 : decode cX0_spell 36 = .ok (.isub, 1) := by decide +kernel
theorem dX0_spell_37 : decode cX0_spell 37 = .ok (.iaload, 1) := by decide +kernel
theorem dX0_spell_38 : decode cX0_spell 38 = .ok (.istore 6, 2) := by decide +kernel
theorem dX0_spell_40 : decode cX0_spell 40 = .ok (.iconst 3, 1) := by decide +kernel
theorem dX0_spell_41 : decode cX0_spell 41 = .ok (.istore 7, 2) := by decide +kernel
theorem dX0_spell_43 : decode cX0_spell 43 = .ok (.iload 7, 2) := by decide +kernel
theorem dX0_spell_45 : decode cX0_spell 45 = .ok (.ifCond .lt 33, 3) := by decide +kernel
theorem dX0_spell_48 : decode cX0_spell 48 = .ok (.iload 6, 2) := by decide +kernel
theorem dX0_spell_50 : decode cX0_spell 50 = .ok (.iload 7, 2) := by decide +kernel
theorem dX0_spell_52 : decode cX0_spell 52 = .ok (.ishr, 1) := by decide +kernel
theorem dX0_spell_53 : decode cX0_spell 53 = .ok (.iconst 1, 1) := by decide +kernel
theorem dX0_spell_54 : decode cX0_spell 54 = .ok (.if_icmp .le 18, 3) := by decide +kernel
theorem dX0_spell_57 : decode cX0_spell 57 = .ok (.aload_n 3, 1) := by decide +kernel
theorem dX0_spell_58 : decode cX0_spell 58 = .ok (.iload 4, 2) := by decide +kernel
theorem dX0_spell_60 : decode cX0_spell 60 = .ok (.iinc 4 1, 3) := by decide +kernel
theorem dX0_spell_63 : decode cX0_spell 63 = .ok (.iload 6, 2) := by decide +kernel
theorem dX0_spell_65 : decode cX0_spell 65 = .ok (.iload 7, 2) := by decide +kernel
theorem dX0_spell_67 : decode cX0_spell 67 = .ok (.ishr, 1) := by decide +kernel
theorem dX0_spell_68 : decode cX0_spell 68 = .ok (.iconst 1, 1) := by decide +kernel
theorem dX0_spell_69 : decode cX0_spell 69 = .ok (.iand, 1) := by decide +kernel
theorem dX0_spell_70 : decode cX0_spell 70 = .ok (.i2b, 1) := by decide +kernel
theorem dX0_spell_71 : decode cX0_spell 71 = .ok (.bastore, 1) := by decide +kernel
theorem dX0_spell_72 : decode cX0_spell 72 = .ok (.iinc 7 (-1), 3) := by decide +kernel
theorem dX0_spell_75 : decode cX0_spell 75 = .ok (.goto (-32), 3) := by decide +kernel
theorem dX0_spell_78 : decode cX0_spell 78 = .ok (.iinc 5 1, 3) := by decide +kernel
theorem dX0_spell_81 : decode cX0_spell 81 = .ok (.goto (-75), 3) := by decide +kernel
theorem dX0_spell_84 : decode cX0_spell 84 = .ok (.iload 4, 2) := by decide +kernel
theorem dX0_spell_86 : decode cX0_spell 86 = .ok (.ireturn, 1) := by decide +kernel
theorem dX0_distance_0 : decode cX0_distance 0 = .ok (.aload_n 0, 1) := by decide +kernel
theorem dX0_distance_1 : decode cX0_distance 1 = .ok (.getfield 9, 3) := by decide +kernel
theorem dX0_distance_4 : decode cX0_distance 4 = .ok (.iload_n 1, 1) := by decide +kernel
theorem dX0_distance_5 : decode cX0_distance 5 = .ok (.laload, 1) := by decide +kernel
theorem dX0_distance_6 : decode cX0_distance 6 = .ok (.aload_n 0, 1) := by decide +kernel
theorem dX0_distance_7 : decode cX0_distance 7 = .ok (.getfield 15, 3) := by decide +kernel
theorem dX0_distance_10 : decode cX0_distance 10 = .ok (.iload_n 1, 1) := by decide +kernel
theorem dX0_distance_11 : decode cX0_distance 11 = .ok (.iaload, 1) := by decide +kernel
theorem dX0_distance_12 : decode cX0_distance 12 = .ok (.aload_n 0, 1) := by decide +kernel
theorem dX0_distance_13 : decode cX0_distance 13 = .ok (.getfield 23, 3) := by decide +kernel
theorem dX0_distance_16 : decode cX0_distance 16 = .ok (.invokestatic 32, 3) := by decide +kernel
theorem dX0_distance_19 : decode cX0_distance 19 = .ok (.istore_n 2, 1) := by decide +kernel
theorem dX0_distance_20 : decode cX0_distance 20 = .ok (.iconst 0, 1) := by decide +kernel
theorem dX0_distance_21 : decode cX0_distance 21 = .ok (.istore_n 3, 1) := by decide +kernel
theorem dX0_distance_22 : decode cX0_distance 22 = .ok (.iload_n 3, 1) := by decide +kernel
theorem dX0_distance_23 : decode cX0_distance 23 = .ok (.aload_n 0, 1) := by decide +kernel
theorem dX0_distance_24 : decode cX0_distance 24 = .ok (.getfield 36, 3) := by decide +kernel
theorem dX0_distance_27 : decode cX0_distance 27 = .ok (.if_icmp .gt 16, 3) := by decide +kernel
theorem dX0_distance_30 : decode cX0_distance 30 = .ok (.aload_n 0, 1) := by decide +kernel
theorem dX0_distance_31 : decode cX0_distance 31 = .ok (.getfield 26, 3) := by decide +kernel
theorem dX0_distance_34 : decode cX0_distance 34 = .ok (.iload_n 3, 1) := by decide +kernel
theorem dX0_distance_35 : decode cX0_distance 35 = .ok (.iload_n 3, 1) := by decide +kernel
theorem dX0_distance_36 : decode cX0_distance 36 = .ok (.iastore, 1) := by decide +kernel
theorem dX0_distance_37 : decode cX0_distance 37 = .ok (.iinc 3 1, 3) := by decide +kernel
theorem dX0_distance_40 : decode cX0_distance 40 = .ok (.goto (-18), 3) := by decide +kernel
theorem dX0_distance_43 : decode cX0_distance 43 = .ok (.iconst 1, 1) := by decide +kernel
theorem dX0_distance_44 : decode cX0_distance 44 = .ok (.istore_n 3, 1) := by decide +kernel
theorem dX0_distance_45 : decode cX0_distance 45 = .ok (.iload_n 3, 1) := by decide +kernel
theorem dX0_distance_46 : decode cX0_distance 46 = .ok (.iload_n 2, 1) := by decide +kernel
theorem dX0_distance_47 : decode cX0_distance 47 = .ok (.if_icmp .gt 114, 3) := by decide +kernel
theorem dX0_distance_50 : decode cX0_distance 50 = .ok (.aload_n 0, 1) := by decide +kernel
theorem dX0_distance_51 : decode cX0_distance 51 = .ok (.getfield 26, 3) := by decide +kernel
theorem dX0_distance_54 : decode cX0_distance 54 = .ok (.iconst 0, 1) := by decide +kernel
theorem dX0_distance_55 : decode cX0_distance 55 = .ok (.iaload, 1) := by decide +kernel
theorem dX0_distance_56 : decode cX0_distance 56 = .ok (.istore 4, 2) := by decide +kernel
theorem dX0_distance_58 : decode cX0_distance 58 = .ok (.aload_n 0, 1) := by decide +kernel
theorem dX0_distance_59 : decode cX0_distance 59 = .ok (.getfield 26, 3) := by decide +kernel
theorem dX0_distance_62 : decode cX0_distance 62 = .ok (.iconst 0, 1) := by decide +kernel
theorem dX0_distance_63 : decode cX0_distance 63 = .ok (.iload_n 3, 1) := by decide +kernel
theorem dX0_distance_64 : decode cX0_distance 64 = .ok (.iastore, 1) := by decide +kernel
theorem dX0_distance_65 : decode cX0_distance 65 = .ok (.iconst 1, 1) := by decide +kernel
theorem dX0_distance_66 : decode cX0_distance 66 = .ok (.istore 5, 2) := by decide +kernel
theorem dX0_distance_68 : decode cX0_distance 68 = .ok (.iload 5, 2) := by decide +kernel
theorem dX0_distance_70 : decode cX0_distance 70 = .ok (.aload_n 0, 1) := by decide +kernel
theorem dX0_distance_71 : decode cX0_distance 71 = .ok (.getfield 36, 3) := by decide +kernel
theorem dX0_distance_74 : decode cX0_distance 74 = .ok (.if_icmp .gt 81, 3) := by decide +kernel
theorem dX0_distance_77 : decode cX0_distance 77 = .ok (.iload 4, 2) := by decide +kernel
theorem dX0_distance_79 : decode cX0_distance 79 = .ok (.aload_n 0, 1) := by decide +kernel
theorem dX0_distance_80 : decode cX0_distance 80 = .ok (.getfield 23, 3) := by decide +kernel
theorem dX0_distance_83 : decode cX0_distance 83 = .ok (.iload_n 3, 1) := by decide +kernel
theorem dX0_distance_84 : decode cX0_distance 84 = .ok (.iconst 1, 1) := by decide +kernel
theorem dX0_distance_85 : decode cX0_distance 85 = .ok (.isub, 1) := by decide +kernel
theorem dX0_distance_86 : decode cX0_distance 86 = .ok (.baload, 1) := by decide +kernel
theorem dX0_distance_87 : decode cX0_distance 87 = .ok (.aload_n 0, 1) := by decide +kernel
theorem dX0_distance_88 : decode cX0_distance 88 = .ok (.getfield 19, 3) := by decide +kernel
theorem dX0_distance_91 : decode cX0_distance 91 = .ok (.iload 5, 2) := by decide +kernel
theorem dX0_distance_93 : decode cX0_distance 93 = .ok (.iconst 1, 1) := by decide +kernel
theorem dX0_distance_94 : decode cX0_distance 94 = .ok (.isub, 1) := by decide +kernel
theorem dX0_distance_95 : decode cX0_distance 95 = .ok (.baload, 1) := by decide +kernel
theorem dX0_distance_96 : decode cX0_distance 96 = .ok (.if_icmp .ne 7, 3) := by decide +kernel
theorem dX0_distance_99 : decode cX0_distance 99 = .ok (.iconst 0, 1) := by decide +kernel
theorem dX0_distance_100 : decode cX0_distance 100 = .ok (.goto 4, 3) := by decide +kernel
theorem dX0_distance_103 : decode cX0_distance 103 = .ok (.iconst 1, 1) := by decide +kernel
theorem dX0_distance_104 : decode cX0_distance 104 = .ok (.iadd, 1) := by decide +kernel
theorem dX0_distance_105 : decode cX0_distance 105 = .ok (.istore 6, 2) := by decide +kernel
theorem dX0_distance_107 : decode cX0_distance 107 = .ok (.aload_n 0, 1) := by decide +kernel
theorem dX0_distance_108 : decode cX0_distance 108 = .ok (.getfield 26, 3) := by decide +kernel
theorem dX0_distance_111 : decode cX0_distance 111 = .ok (.iload 5, 2) := by decide +kernel
theorem dX0_distance_113 : decode cX0_distance 113 = .ok (.iaload, 1) := by decide +kernel
theorem dX0_distance_114 : decode cX0_distance 114 = .ok (.istore 4, 2) := by decide +kernel
theorem dX0_distance_116 : decode cX0_distance 116 = .ok (.aload_n 0, 1) := by decide +kernel
theorem dX0_distance_117 : decode cX0_distance 117 = .ok (.getfield 26, 3) := by decide +kernel
theorem dX0_distance_120 : decode cX0_distance 120 = .ok (.iload 5, 2) := by decide +kernel
theorem dX0_distance_122 : decode cX0_distance 122 = .ok (.iload 6, 2) := by decide +kernel
theorem dX0_distance_124 : decode cX0_distance 124 = .ok (.iconst 1, 1) := by decide +kernel
theorem dX0_distance_125 : decode cX0_distance 125 = .ok (.aload_n 0, 1) := by decide +kernel
theorem dX0_distance_126 : decode cX0_distance 126 = .ok (.getfield 26, 3) := by decide +kernel
theorem dX0_distance_129 : decode cX0_distance 129 = .ok (.iload 5, 2) := by decide +kernel
theorem dX0_distance_131 : decode cX0_distance 131 = .ok (.iaload, 1) := by decide +kernel
theorem dX0_distance_132 : decode cX0_distance 132 = .ok (.aload_n 0, 1) := by decide +kernel
theorem dX0_distance_133 : decode cX0_distance 133 = .ok (.getfield 26, 3) := by decide +kernel
theorem dX0_distance_136 : decode cX0_distance 136 = .ok (.iload 5, 2) := by decide +kernel
theorem dX0_distance_138 : decode cX0_distance 138 = .ok (.iconst 1, 1) := by decide +kernel
theorem dX0_distance_139 : decode cX0_distance 139 = .ok (.isub, 1) := by decide +kernel
theorem dX0_distance_140 : decode cX0_distance 140 = .ok (.iaload, 1) := by decide +kernel
theorem dX0_distance_141 : decode cX0_distance 141 = .ok (.invokestatic 47, 3) := by decide +kernel
theorem dX0_distance_144 : decode cX0_distance 144 = .ok (.iadd, 1) := by decide +kernel
theorem dX0_distance_145 : decode cX0_distance 145 = .ok (.invokestatic 47, 3) := by decide +kernel
theorem dX0_distance_148 : decode cX0_distance 148 = .ok (.iastore, 1) := by decide +kernel
theorem dX0_distance_149 : decode cX0_distance 149 = .ok (.iinc 5 1, 3) := by decide +kernel
theorem dX0_distance_152 : decode cX0_distance 152 = .ok (.goto (-84), 3) := by decide +kernel
theorem dX0_distance_155 : decode cX0_distance 155 = .ok (.iinc 3 1, 3) := by decide +kernel
theorem dX0_distance_158 : decode cX0_distance 158 = .ok (.goto (-113), 3) := by decide +kernel
theorem dX0_distance_161 : decode cX0_distance 161 = .ok (.aload_n 0, 1) := by decide +kernel
theorem dX0_distance_162 : decode cX0_distance 162 = .ok (.getfield 26, 3) := by decide +kernel
theorem dX0_distance_165 : decode cX0_distance 165 = .ok (.aload_n 0, 1) := by decide +kernel
theorem dX0_distance_166 : decode cX0_distance 166 = .ok (.getfield 36, 3) := by decide +kernel
theorem dX0_distance_169 : decode cX0_distance 169 = .ok (.iaload, 1) := by decide +kernel
theorem dX0_distance_170 : decode cX0_distance 170 = .ok (.ireturn, 1) := by decide +kernel
theorem dX0_byLikelihood_0 : decode cX0_byLikelihood 0 = .ok (.iconst 0, 1) := by decide +kernel
theorem dX0_byLikelihood_1 : decode cX0_byLikelihood 1 = .ok (.istore_n 2, 1) := by decide +kernel
theorem dX0_byLikelihood_2 : decode cX0_byLikelihood 2 = .ok (.iload_n 2, 1) := by decide +kernel
theorem dX0_byLikelihood_3 : decode cX0_byLikelihood 3 = .ok (.bipush 16, 2) := by decide +kernel
theorem dX0_byLikelihood_5 : decode cX0_byLikelihood 5 = .ok (.if_icmp .ge 34, 3) := by decide +kernel
theorem dX0_byLikelihood_8 : decode cX0_byLikelihood 8 = .ok (.aload_n 0, 1) := by decide +kernel
theorem dX0_byLikelihood_9 : decode cX0_byLikelihood 9 = .ok (.getfield 29, 3) := by decide +kernel
theorem dX0_byLikelihood_12 : decode cX0_byLikelihood 12 = .ok (.iload_n 2, 1) := by decide +kernel
theorem dX0_byLikelihood_13 : decode cX0_byLikelihood 13 = .ok (.aload_n 0, 1) := by decide +kernel
theorem dX0_byLikelihood_14 : decode cX0_byLikelihood 14 = .ok (.getfield 15, 3) := by decide +kernel
theorem dX0_byLikelihood_17 : decode cX0_byLikelihood 17 = .ok (.iload_n 2, 1) := by decide +kernel
theorem dX0_byLikelihood_18 : decode cX0_byLikelihood 18 = .ok (.iaload, 1) := by decide +kernel
theorem dX0_byLikelihood_19 : decode cX0_byLikelihood 19 = .ok (.ifCond .ne 8, 3) := by decide +kernel
theorem dX0_byLikelihood_22 : decode cX0_byLikelihood 22 = .ok (.ldc 53, 2) := by decide +kernel
theorem dX0_byLikelihood_24 : decode cX0_byLikelihood 24 = .ok (.goto 8, 3) := by decide +kernel
theorem dX0_byLikelihood_27 : decode cX0_byLikelihood 27 = .ok (.aload_n 0, 1) := by decide +kernel
theorem dX0_byLikelihood_28 : decode cX0_byLikelihood 28 = .ok (.iload_n 2, 1) := by decide +kernel
theorem dX0_byLikelihood_29 : decode cX0_byLikelihood 29 = .ok (.invokevirtual 54, 3) := by decide +kernel
theorem dX0_byLikelihood_32 : decode cX0_byLikelihood 32 = .ok (.iastore, 1) := by decide +kernel
theorem dX0_byLikelihood_33 : decode cX0_byLikelihood 33 = .ok (.iinc 2 1, 3) := by decide +kernel
theorem dX0_byLikelihood_36 : decode cX0_byLikelihood 36 = .ok (.goto (-34), 3) := by decide +kernel
theorem dX0_byLikelihood_39 : decode cX0_byLikelihood 39 = .ok (.iconst 0, 1) := by decide +kernel
theorem dX0_byLikelihood_40 : decode cX0_byLikelihood 40 = .ok (.istore_n 2, 1) := by decide +kernel
theorem dX0_byLikelihood_41 : decode cX0_byLikelihood 41 = .ok (.iload_n 2, 1) := by decide +kernel
theorem dX0_byLikelihood_42 : decode cX0_byLikelihood 42 = .ok (.bipush 16, 2) := by decide +kernel
theorem dX0_byLikelihood_44 : decode cX0_byLikelihood 44 = .ok (.if_icmp .ge 31, 3) := by decide +kernel
theorem dX0_byLikelihood_47 : decode cX0_byLikelihood 47 = .ok (.aload_n 0, 1) := by decide +kernel
theorem dX0_byLikelihood_48 : decode cX0_byLikelihood 48 = .ok (.getfield 29, 3) := by decide +kernel
theorem dX0_byLikelihood_51 : decode cX0_byLikelihood 51 = .ok (.iload_n 2, 1) := by decide +kernel
theorem dX0_byLikelihood_52 : decode cX0_byLikelihood 52 = .ok (.iaload, 1) := by decide +kernel
theorem dX0_byLikelihood_53 : decode cX0_byLikelihood 53 = .ok (.ldc 53, 2) := by decide +kernel
theorem dX0_byLikelihood_55 : decode cX0_byLikelihood 55 = .ok (.if_icmp .eq 14, 3) := by decide +kernel
theorem dX0_byLikelihood_58 : decode cX0_byLikelihood 58 = .ok (.aload_n 0, 1) := by decide +kernel
theorem dX0_byLikelihood_59 : decode cX0_byLikelihood 59 = .ok (.iload_n 2, 1) := by decide +kernel
theorem dX0_byLikelihood_60 : decode cX0_byLikelihood 60 = .ok (.invokevirtual 58, 3) := by decide +kernel
theorem dX0_byLikelihood_63 : decode cX0_byLikelihood 63 = .ok (.iload_n 1, 1) := by decide +kernel
theorem dX0_byLikelihood_64 : decode cX0_byLikelihood 64 = .ok (.if_icmp .ne 5, 3) := by decide +kernel
theorem dX0_byLikelihood_67 : decode cX0_byLikelihood 67 = .ok (.iload_n 2, 1) := by decide +kernel
theorem dX0_byLikelihood_68 : decode cX0_byLikelihood 68 = .ok (.ireturn, 1) := by decide +kernel
theorem dX0_byLikelihood_69 : decode cX0_byLikelihood 69 = .ok (.iinc 2 1, 3) := by decide +kernel
theorem dX0_byLikelihood_72 : decode cX0_byLikelihood 72 = .ok (.goto (-31), 3) := by decide +kernel
theorem dX0_byLikelihood_75 : decode cX0_byLikelihood 75 = .ok (.iconst (-1), 1) := by decide +kernel
theorem dX0_byLikelihood_76 : decode cX0_byLikelihood 76 = .ok (.ireturn, 1) := by decide +kernel
theorem dX0_likelierThan_0 : decode cX0_likelierThan 0 = .ok (.iconst 0, 1) := by decide +kernel
theorem dX0_likelierThan_1 : decode cX0_likelierThan 1 = .ok (.istore_n 2, 1) := by decide +kernel
theorem dX0_likelierThan_2 : decode cX0_likelierThan 2 = .ok (.iconst 0, 1) := by decide +kernel
theorem dX0_likelierThan_3 : decode cX0_likelierThan 3 = .ok (.istore_n 3, 1) := by decide +kernel
theorem dX0_likelierThan_4 : decode cX0_likelierThan 4 = .ok (.iload_n 3, 1) := by decide +kernel
theorem dX0_likelierThan_5 : decode cX0_likelierThan 5 = .ok (.bipush 16, 2) := by decide +kernel
theorem dX0_likelierThan_7 : decode cX0_likelierThan 7 = .ok (.if_icmp .ge 47, 3) := by decide +kernel
theorem dX0_likelierThan_10 : decode cX0_likelierThan 10 = .ok (.aload_n 0, 1) := by decide +kernel
theorem dX0_likelierThan_11 : decode cX0_likelierThan 11 = .ok (.getfield 29, 3) := by decide +kernel
theorem dX0_likelierThan_14 : decode cX0_likelierThan 14 = .ok (.iload_n 3, 1) := by decide +kernel
theorem dX0_likelierThan_15 : decode cX0_likelierThan 15 = .ok (.iaload, 1) := by decide +kernel
theorem dX0_likelierThan_16 : decode cX0_likelierThan 16 = .ok (.aload_n 0, 1) := by decide +kernel
theorem dX0_likelierThan_17 : decode cX0_likelierThan 17 = .ok (.getfield 29, 3) := by decide +kernel
theorem dX0_likelierThan_20 : decode cX0_likelierThan 20 = .ok (.iload_n 1, 1) := by decide +kernel
theorem dX0_likelierThan_21 : decode cX0_likelierThan 21 = .ok (.iaload, 1) := by decide +kernel
theorem dX0_likelierThan_22 : decode cX0_likelierThan 22 = .ok (.if_icmp .lt 23, 3) := by decide +kernel
theorem dX0_likelierThan_25 : decode cX0_likelierThan 25 = .ok (.aload_n 0, 1) := by decide +kernel
theorem dX0_likelierThan_26 : decode cX0_likelierThan 26 = .ok (.getfield 29, 3) := by decide +kernel
theorem dX0_likelierThan_29 : decode cX0_likelierThan 29 = .ok (.iload_n 3, 1) := by decide +kernel
theorem dX0_likelierThan_30 : decode cX0_likelierThan 30 = .ok (.iaload, 1) := by decide +kernel
theorem dX0_likelierThan_31 : decode cX0_likelierThan 31 = .ok (.aload_n 0, 1) := by decide +kernel
theorem dX0_likelierThan_32 : decode cX0_likelierThan 32 = .ok (.getfield 29, 3) := by decide +kernel
theorem dX0_likelierThan_35 : decode cX0_likelierThan 35 = .ok (.iload_n 1, 1) := by decide +kernel
theorem dX0_likelierThan_36 : decode cX0_likelierThan 36 = .ok (.iaload, 1) := by decide +kernel
theorem dX0_likelierThan_37 : decode cX0_likelierThan 37 = .ok (.if_icmp .ne 11, 3) := by decide +kernel
theorem dX0_likelierThan_40 : decode cX0_likelierThan 40 = .ok (.iload_n 3, 1) := by decide +kernel
theorem dX0_likelierThan_41 : decode cX0_likelierThan 41 = .ok (.iload_n 1, 1) := by decide +kernel
theorem dX0_likelierThan_42 : decode cX0_likelierThan 42 = .ok (.if_icmp .ge 6, 3) := by decide +kernel
theorem dX0_likelierThan_45 : decode cX0_likelierThan 45 = .ok (.iinc 2 1, 3) := by decide +kernel
theorem dX0_likelierThan_48 : decode cX0_likelierThan 48 = .ok (.iinc 3 1, 3) := by decide +kernel
theorem dX0_likelierThan_51 : decode cX0_likelierThan 51 = .ok (.goto (-47), 3) := by decide +kernel
theorem dX0_likelierThan_54 : decode cX0_likelierThan 54 = .ok (.iload_n 2, 1) := by decide +kernel
theorem dX0_likelierThan_55 : decode cX0_likelierThan 55 = .ok (.ireturn, 1) := by decide +kernel
theorem dX1_init_0 : decode cX1_init 0 = .ok (.aload_n 0, 1) := by decide +kernel
theorem dX1_init_1 : decode cX1_init 1 = .ok (.invokespecial 3, 3) := by decide +kernel
theorem dX1_init_4 : decode cX1_init 4 = .ok (.aload_n 0, 1) := by decide +kernel
theorem dX1_init_5 : decode cX1_init 5 = .ok (.bipush 6, 2) := by decide +kernel
theorem dX1_init_7 : decode cX1_init 7 = .ok (.newarray .int, 2) := by decide +kernel
theorem dX1_init_9 : decode cX1_init 9 = .ok (.putfield 9, 3) := by decide +kernel
theorem dX1_init_12 : decode cX1_init 12 = .ok (.aload_n 0, 1) := by decide +kernel
theorem dX1_init_13 : decode cX1_init 13 = .ok (.bipush 6, 2) := by decide +kernel
theorem dX1_init_15 : decode cX1_init 15 = .ok (.newarray .int, 2) := by decide +kernel
theorem dX1_init_17 : decode cX1_init 17 = .ok (.putfield 15, 3) := by decide +kernel
theorem dX1_init_20 : decode cX1_init 20 = .ok (.aload_n 0, 1) := by decide +kernel
theorem dX1_init_21 : decode cX1_init 21 = .ok (.bipush 6, 2) := by decide +kernel
theorem dX1_init_23 : decode cX1_init 23 = .ok (.newarray .int, 2) := by decide +kernel
theorem dX1_init_25 : decode cX1_init 25 = .ok (.putfield 18, 3) := by decide +kernel
theorem dX1_init_28 : decode cX1_init 28 = .ok (.aload_n 0, 1) := by decide +kernel
theorem dX1_init_29 : decode cX1_init 29 = .ok (.bipush 6, 2) := by decide +kernel
theorem dX1_init_31 : decode cX1_init 31 = .ok (.newarray .int, 2) := by decide +kernel
theorem dX1_init_33 : decode cX1_init 33 = .ok (.putfield 21, 3) := by decide +kernel
theorem dX1_init_36 : decode cX1_init 36 = .ok (.aload_n 0, 1) := by decide +kernel
theorem dX1_init_37 : decode cX1_init 37 = .ok (.bipush 6, 2) := by decide +kernel
theorem dX1_init_39 : decode cX1_init 39 = .ok (.newarray .int, 2) := by decide +kernel
theorem dX1_init_41 : decode cX1_init 41 = .ok (.putfield 24, 3) := by decide +kernel
theorem dX1_init_44 : decode cX1_init 44 = .ok (.return_, 1) := by decide +kernel
theorem dX1_put_0 : decode cX1_put 0 = .ok (.aload_n 0, 1) := by decide +kernel
theorem dX1_put_1 : decode cX1_put 1 = .ok (.getfield 9, 3) := by decide +kernel
theorem dX1_put_4 : decode cX1_put 4 = .ok (.aload_n 0, 1) := by decide +kernel
theorem dX1_put_5 : decode cX1_put 5 = .ok (.getfield 27, 3) := by decide +kernel
theorem dX1_put_8 : decode cX1_put 8 = .ok (.iload_n 1, 1) := by decide +kernel
theorem dX1_put_9 : decode cX1_put 9 = .ok (.iastore, 1) := by decide +kernel
theorem dX1_put_10 : decode cX1_put 10 = .ok (.aload_n 0, 1) := by decide +kernel
theorem dX1_put_11 : decode cX1_put 11 = .ok (.getfield 15, 3) := by decide +kernel
theorem dX1_put_14 : decode cX1_put 14 = .ok (.aload_n 0, 1) := by decide +kernel
theorem dX1_put_15 : decode cX1_put 15 = .ok (.getfield 27, 3) := by decide +kernel
theorem dX1_put_18 : decode cX1_put 18 = .ok (.iload_n 2, 1) := by decide +kernel
theorem dX1_put_19 : decode cX1_put 19 = .ok (.iastore, 1) := by decide +kernel
theorem dX1_put_20 : decode cX1_put 20 = .ok (.aload_n 0, 1) := by decide +kernel
theorem dX1_put_21 : decode cX1_put 21 = .ok (.getfield 18, 3) := by decide +kernel
theorem dX1_put_24 : decode cX1_put 24 = .ok (.aload_n 0, 1) := by decide +kernel
theorem dX1_put_25 : decode cX1_put 25 = .ok (.getfield 27, 3) := by decide +kernel
theorem dX1_put_28 : decode cX1_put 28 = .ok (.iload_n 3, 1) := by decide +kernel
theorem dX1_put_29 : decode cX1_put 29 = .ok (.iastore, 1) := by decide +kernel
theorem dX1_put_30 : decode cX1_put 30 = .ok (.aload_n 0, 1) := by decide +kernel
theorem dX1_put_31 : decode cX1_put 31 = .ok (.dup, 1) := by decide +kernel
theorem dX1_put_32 : decode cX1_put 32 = .ok (.getfield 27, 3) := by decide +kernel
theorem dX1_put_35 : decode cX1_put 35 = .ok (.iconst 1, 1) := by decide +kernel
theorem dX1_put_36 : decode cX1_put 36 = .ok (.iadd, 1) := by decide +kernel
theorem dX1_put_37 : decode cX1_put 37 = .ok (.putfield 27, 3) := by decide +kernel
theorem dX1_put_40 : decode cX1_put 40 = .ok (.aload_n 0, 1) := by decide +kernel
theorem dX1_put_41 : decode cX1_put 41 = .ok (.iconst 0, 1) := by decide +kernel
theorem dX1_put_42 : decode cX1_put 42 = .ok (.putfield 31, 3) := by decide +kernel
theorem dX1_put_45 : decode cX1_put 45 = .ok (.aload_n 0, 1) := by decide +kernel
theorem dX1_put_46 : decode cX1_put 46 = .ok (.getfield 27, 3) := by decide +kernel
theorem dX1_put_49 : decode cX1_put 49 = .ok (.iconst 1, 1) := by decide +kernel
theorem dX1_put_50 : decode cX1_put 50 = .ok (.isub, 1) := by decide +kernel
theorem dX1_put_51 : decode cX1_put 51 = .ok (.ireturn, 1) := by decide +kernel
theorem dX1_plan_0 : decode cX1_plan 0 = .ok (.aload_n 0, 1) := by decide +kernel
theorem dX1_plan_1 : decode cX1_plan 1 = .ok (.getfield 31, 3) := by decide +kernel
theorem dX1_plan_4 : decode cX1_plan 4 = .ok (.ifCond .eq 4, 3) := by decide +kernel
theorem dX1_plan_7 : decode cX1_plan 7 = .ok (.return_, 1) := by decide +kernel
theorem dX1_plan_8 : decode cX1_plan 8 = .ok (.aload_n 0, 1) := by decide +kernel
theorem dX1_plan_9 : decode cX1_plan 9 = .ok (.iconst 1, 1) := by decide +kernel
theorem dX1_plan_10 : decode cX1_plan 10 = .ok (.putfield 31, 3) := by decide +kernel
theorem dX1_plan_13 : decode cX1_plan 13 = .ok (.aload_n 0, 1) := by decide +kernel
theorem dX1_plan_14 : decode cX1_plan 14 = .ok (.aload_n 0, 1) := by decide +kernel
theorem dX1_plan_15 : decode cX1_plan 15 = .ok (.getfield 27, 3) := by decide +kernel
theorem dX1_plan_18 : decode cX1_plan 18 = .ok (.iconst 1, 1) := by decide +kernel
theorem dX1_plan_19 : decode cX1_plan 19 = .ok (.iadd, 1) := by decide +kernel
theorem dX1_plan_20 : decode cX1_plan 20 = .ok (.putfield 35, 3) := by decide +kernel
theorem dX1_plan_23 : decode cX1_plan 23 = .ok (.aload_n 0, 1) := by decide +kernel
theorem dX1_plan_24 : decode cX1_plan 24 = .ok (.ldc 38, 2) := by decide +kernel
theorem dX1_plan_26 : decode cX1_plan 26 = .ok (.putfield 39, 3) := by decide +kernel
theorem dX1_plan_29 : decode cX1_plan 29 = .ok (.aload_n 0, 1) := by decide +kernel
theorem dX1_plan_30 : decode cX1_plan 30 = .ok (.iconst 0, 1) := by decide +kernel
theorem dX1_plan_31 : decode cX1_plan 31 = .ok (.iconst 0, 1) := by decide +kernel
theorem dX1_plan_32 : decode cX1_plan 32 = .ok (.iconst 0, 1) := by decide +kernel
theorem dX1_plan_33 : decode cX1_plan 33 = .ok (.iconst 0, 1) := by decide +kernel
theorem dX1_plan_34 : decode cX1_plan 34 = .ok (.invokevirtual 42, 3) := by decide +kernel
theorem dX1_plan_37 : decode cX1_plan 37 = .ok (.return_, 1) := by decide +kernel
theorem dX1_goOn_0 : decode cX1_goOn 0 = .ok (.iload 4, 2) := by decide +kernel
theorem dX1_goOn_2 : decode cX1_goOn 2 = .ok (.aload_n 0, 1) := by decide +kernel
theorem dX1_goOn_3 : decode cX1_goOn 3 = .ok (.getfield 35, 3) := by decide +kernel
theorem dX1_goOn_6 : decode cX1_goOn 6 = .ok (.if_icmp .gt 20, 3) := by decide +kernel
theorem dX1_goOn_9 : decode cX1_goOn 9 = .ok (.iload 4, 2) := by decide +kernel
theorem dX1_goOn_11 : decode cX1_goOn 11 = .ok (.aload_n 0, 1) := by decide +kernel
theorem dX1_goOn_12 : decode cX1_goOn 12 = .ok (.getfield 35, 3) := by decide +kernel
theorem dX1_goOn_15 : decode cX1_goOn 15 = .ok (.if_icmp .ne 12, 3) := by decide +kernel
theorem dX1_goOn_18 : decode cX1_goOn 18 = .ok (.iload_n 3, 1) := by decide +kernel
theorem dX1_goOn_19 : decode cX1_goOn 19 = .ok (.aload_n 0, 1) := by decide +kernel
theorem dX1_goOn_20 : decode cX1_goOn 20 = .ok (.getfield 39, 3) := by decide +kernel
theorem dX1_goOn_23 : decode cX1_goOn 23 = .ok (.if_icmp .lt 4, 3) := by decide +kernel
theorem dX1_goOn_26 : decode cX1_goOn 26 = .ok (.return_, 1) := by decide +kernel
theorem dX1_goOn_27 : decode cX1_goOn 27 = .ok (.iload_n 1, 1) := by decide +kernel
theorem dX1_goOn_28 : decode cX1_goOn 28 = .ok (.aload_n 0, 1) := by decide +kernel
theorem dX1_goOn_29 : decode cX1_goOn 29 = .ok (.getfield 27, 3) := by decide +kernel
theorem dX1_goOn_32 : decode cX1_goOn 32 = .ok (.if_icmp .lt 32, 3) := by decide +kernel
theorem dX1_goOn_35 : decode cX1_goOn 35 = .ok (.aload_n 0, 1) := by decide +kernel
theorem dX1_goOn_36 : decode cX1_goOn 36 = .ok (.iload 4, 2) := by decide +kernel
theorem dX1_goOn_38 : decode cX1_goOn 38 = .ok (.putfield 35, 3) := by decide +kernel
theorem dX1_goOn_41 : decode cX1_goOn 41 = .ok (.aload_n 0, 1) := by decide +kernel
theorem dX1_goOn_42 : decode cX1_goOn 42 = .ok (.iload_n 3, 1) := by decide +kernel
theorem dX1_goOn_43 : decode cX1_goOn 43 = .ok (.putfield 39, 3) := by decide +kernel
theorem dX1_goOn_46 : decode cX1_goOn 46 = .ok (.aload_n 0, 1) := by decide +kernel
theorem dX1_goOn_47 : decode cX1_goOn 47 = .ok (.getfield 21, 3) := by decide +kernel
theorem dX1_goOn_50 : decode cX1_goOn 50 = .ok (.iconst 0, 1) := by decide +kernel
theorem dX1_goOn_51 : decode cX1_goOn 51 = .ok (.aload_n 0, 1) := by decide +kernel
theorem dX1_goOn_52 : decode cX1_goOn 52 = .ok (.getfield 24, 3) := by decide +kernel
theorem dX1_goOn_55 : decode cX1_goOn 55 = .ok (.iconst 0, 1) := by decide +kernel
theorem dX1_goOn_56 : decode cX1_goOn 56 = .ok (.aload_n 0, 1) := by decide +kernel
theorem dX1_goOn_57 : decode cX1_goOn 57 = .ok (.getfield 27, 3) := by decide +kernel
theorem dX1_goOn_60 : decode cX1_goOn 60 = .ok (.invokestatic 46, 3) := by decide +kernel
theorem dX1_goOn_63 : decode cX1_goOn 63 = .ok (.return_, 1) := by decide +kernel
theorem dX1_goOn_64 : decode cX1_goOn 64 = .ok (.iload_n 1, 1) := by decide +kernel
theorem dX1_goOn_65 : decode cX1_goOn 65 = .ok (.ifCond .ne 7, 3) := by decide +kernel
theorem dX1_goOn_68 : decode cX1_goOn 68 = .ok (.iconst 0, 1) := by decide +kernel
theorem dX1_goOn_69 : decode cX1_goOn 69 = .ok (.goto 16, 3) := by decide +kernel
theorem dX1_goOn_72 : decode cX1_goOn 72 = .ok (.aload_n 0, 1) := by decide +kernel
theorem dX1_goOn_73 : decode cX1_goOn 73 = .ok (.getfield 9, 3) := by decide +kernel
theorem dX1_goOn_76 : decode cX1_goOn 76 = .ok (.aload_n 0, 1) := by decide +kernel
theorem dX1_goOn_77 : decode cX1_goOn 77 = .ok (.getfield 21, 3) := by decide +kernel
theorem dX1_goOn_80 : decode cX1_goOn 80 = .ok (.iload_n 1, 1) := by decide +kernel
theorem dX1_goOn_81 : decode cX1_goOn 81 = .ok (.iconst 1, 1) := by decide +kernel
theorem dX1_goOn_82 : decode cX1_goOn 82 = .ok (.isub, 1) := by decide +kernel
theorem dX1_goOn_83 : decode cX1_goOn 83 = .ok (.iaload, 1) := by decide +kernel
theorem dX1_goOn_84 : decode cX1_goOn 84 = .ok (.iaload, 1) := by decide +kernel
theorem dX1_goOn_85 : decode cX1_goOn 85 = .ok (.istore 5, 2) := by decide +kernel
theorem dX1_goOn_87 : decode cX1_goOn 87 = .ok (.iload_n 1, 1) := by decide +kernel
theorem dX1_goOn_88 : decode cX1_goOn 88 = .ok (.ifCond .ne 7, 3) := by decide +kernel
theorem dX1_goOn_91 : decode cX1_goOn 91 = .ok (.iconst 0, 1) := by decide +kernel
theorem dX1_goOn_92 : decode cX1_goOn 92 = .ok (.goto 16, 3) := by decide +kernel
theorem dX1_goOn_95 : decode cX1_goOn 95 = .ok (.aload_n 0, 1) := by decide +kernel
theorem dX1_goOn_96 : decode cX1_goOn 96 = .ok (.getfield 15, 3) := by decide +kernel
theorem dX1_goOn_99 : decode cX1_goOn 99 = .ok (.aload_n 0, 1) := by decide +kernel
theorem dX1_goOn_100 : decode cX1_goOn 100 = .ok (.getfield 21, 3) := by decide +kernel
theorem dX1_goOn_103 : decode cX1_goOn 103 = .ok (.iload_n 1, 1) := by decide +kernel
theorem dX1_goOn_104 : decode cX1_goOn 104 = .ok (.iconst 1, 1) := by decide +kernel
theorem dX1_goOn_105 : decode cX1_goOn 105 = .ok (.isub, 1) := by decide +kernel
theorem dX1_goOn_106 : decode cX1_goOn 106 = .ok (.iaload, 1) := by decide +kernel
theorem dX1_goOn_107 : decode cX1_goOn 107 = .ok (.iaload, 1) := by decide +kernel
theorem dX1_goOn_108 : decode cX1_goOn 108 = .ok (.istore 6, 2) := by decide +kernel
theorem dX1_goOn_110 : decode cX1_goOn 110 = .ok (.iconst 0, 1) := by decide +kernel
theorem dX1_goOn_111 : decode cX1_goOn 111 = .ok (.istore 7, 2) := by decide +kernel
theorem dX1_goOn_113 : decode cX1_goOn 113 = .ok (.iload 7, 2) := by decide +kernel
theorem dX1_goOn_115 : decode cX1_goOn 115 = .ok (.aload_n 0, 1) := by decide +kernel
theorem dX1_goOn_116 : decode cX1_goOn 116 = .ok (.getfield 27, 3) := by decide +kernel
theorem dX1_goOn_119 : decode cX1_goOn 119 = .ok (.if_icmp .ge 96, 3) := by decide +kernel
theorem dX1_goOn_122 : decode cX1_goOn 122 = .ok (.iload_n 2, 1) := by decide +kernel
theorem dX1_goOn_123 : decode cX1_goOn 123 = .ok (.iload 7, 2) := by decide +kernel
theorem dX1_goOn_125 : decode cX1_goOn 125 = .ok (.invokestatic 52, 3) := by decide +kernel
theorem dX1_goOn_128 : decode cX1_goOn 128 = .ok (.ifCond .eq 6, 3) := by decide +kernel
theorem dX1_goOn_131 : decode cX1_goOn 131 = .ok (.goto 78, 3) := by decide +kernel
theorem dX1_goOn_134 : decode cX1_goOn 134 = .ok (.iload_n 3, 1) := by decide +kernel
theorem dX1_goOn_135 : decode cX1_goOn 135 = .ok (.aload_n 0, 1) := by decide +kernel
theorem dX1_goOn_136 : decode cX1_goOn 136 = .ok (.getfield 9, 3) := by decide +kernel
theorem dX1_goOn_139 : decode cX1_goOn 139 = .ok (.iload 7, 2) := by decide +kernel
theorem dX1_goOn_141 : decode cX1_goOn 141 = .ok (.iaload, 1) := by decide +kernel
theorem dX1_goOn_142 : decode cX1_goOn 142 = .ok (.iload 5, 2) := by decide +kernel
theorem dX1_goOn_144 : decode cX1_goOn 144 = .ok (.isub, 1) := by decide +kernel
theorem dX1_goOn_145 : decode cX1_goOn 145 = .ok (.invokestatic 56, 3) := by decide +kernel
theorem dX1_goOn_148 : decode cX1_goOn 148 = .ok (.iadd, 1) := by decide +kernel
theorem dX1_goOn_149 : decode cX1_goOn 149 = .ok (.aload_n 0, 1) := by decide +kernel
theorem dX1_goOn_150 : decode cX1_goOn 150 = .ok (.getfield 15, 3) := by decide +kernel
theorem dX1_goOn_153 : decode cX1_goOn 153 = .ok (.iload 7, 2) := by decide +kernel
theorem dX1_goOn_155 : decode cX1_goOn 155 = .ok (.iaload, 1) := by decide +kernel
theorem dX1_goOn_156 : decode cX1_goOn 156 = .ok (.iload 6, 2) := by decide +kernel
theorem dX1_goOn_158 : decode cX1_goOn 158 = .ok (.isub, 1) := by decide +kernel
theorem dX1_goOn_159 : decode cX1_goOn 159 = .ok (.invokestatic 56, 3) := by decide +kernel
theorem dX1_goOn_162 : decode cX1_goOn 162 = .ok (.iadd, 1) := by decide +kernel
theorem dX1_goOn_163 : decode cX1_goOn 163 = .ok (.istore 8, 2) := by decide +kernel
theorem dX1_goOn_165 : decode cX1_goOn 165 = .ok (.aload_n 0, 1) := by decide +kernel
theorem dX1_goOn_166 : decode cX1_goOn 166 = .ok (.getfield 21, 3) := by decide +kernel
theorem dX1_goOn_169 : decode cX1_goOn 169 = .ok (.iload_n 1, 1) := by decide +kernel
theorem dX1_goOn_170 : decode cX1_goOn 170 = .ok (.iload 7, 2) := by decide +kernel
theorem dX1_goOn_172 : decode cX1_goOn 172 = .ok (.iastore, 1) := by decide +kernel
theorem dX1_goOn_173 : decode cX1_goOn 173 = .ok (.aload_n 0, 1) := by decide +kernel
theorem dX1_goOn_174 : decode cX1_goOn 174 = .ok (.iload_n 1, 1) := by decide +kernel
theorem dX1_goOn_175 : decode cX1_goOn 175 = .ok (.iconst 1, 1) := by decide +kernel
theorem dX1_goOn_176 : decode cX1_goOn 176 = .ok (.iadd, 1) := by decide +kernel
theorem dX1_goOn_177 : decode cX1_goOn 177 = .ok (.iload_n 2, 1) := by decide +kernel
theorem dX1_goOn_178 : decode cX1_goOn 178 = .ok (.iconst 1, 1) := by decide +kernel
theorem dX1_goOn_179 : decode cX1_goOn 179 = .ok (.iload 7, 2) := by decide +kernel
theorem dX1_goOn_181 : decode cX1_goOn 181 = .ok (.ishl, 1) := by decide +kernel
theorem dX1_goOn_182 : decode cX1_goOn 182 = .ok (.ior, 1) := by decide +kernel
theorem dX1_goOn_183 : decode cX1_goOn 183 = .ok (.iload 8, 2) := by decide +kernel
theorem dX1_goOn_185 : decode cX1_goOn 185 = .ok (.iload 8, 2) := by decide +kernel
theorem dX1_goOn_187 : decode cX1_goOn 187 = .ok (.aload_n 0, 1) := by decide +kernel
theorem dX1_goOn_188 : decode cX1_goOn 188 = .ok (.getfield 18, 3) := by decide +kernel
theorem dX1_goOn_191 : decode cX1_goOn 191 = .ok (.iload 7, 2) := by decide +kernel
theorem dX1_goOn_193 : decode cX1_goOn 193 = .ok (.iaload, 1) := by decide +kernel
theorem dX1_goOn_194 : decode cX1_goOn 194 = .ok (.if_icmp .le 10, 3) := by decide +kernel
theorem dX1_goOn_197 : decode cX1_goOn 197 = .ok (.iload 4, 2) := by decide +kernel
theorem dX1_goOn_199 : decode cX1_goOn 199 = .ok (.iconst 1, 1) := by decide +kernel
theorem dX1_goOn_200 : decode cX1_goOn 200 = .ok (.iadd, 1) := by decide +kernel
theorem dX1_goOn_201 : decode cX1_goOn 201 = .ok (.goto 5, 3) := by decide +kernel
theorem dX1_goOn_204 : decode cX1_goOn 204 = .ok (.iload 4, 2) := by decide +kernel
theorem dX1_goOn_206 : decode cX1_goOn 206 = .ok (.invokevirtual 42, 3) := by decide +kernel
theorem dX1_goOn_209 : decode cX1_goOn 209 = .ok (.iinc 7 1, 3) := by decide +kernel
theorem dX1_goOn_212 : decode cX1_goOn 212 = .ok (.goto (-99), 3) := by decide +kernel
theorem dX1_goOn_215 : decode cX1_goOn 215 = .ok (.return_, 1) := by decide +kernel
theorem dX2_init_0 : decode cX2_init 0 = .ok (.aload_n 0, 1) := by decide +kernel
theorem dX2_init_1 : decode cX2_init 1 = .ok (.invokespecial 3, 3) := by decide +kernel
theorem dX2_init_4 : decode cX2_init 4 = .ok (.aload_n 0, 1) := by decide +kernel
theorem dX2_init_5 : decode cX2_init 5 = .ok (.new 9, 3) := by decide +kernel
theorem dX2_init_8 : decode cX2_init 8 = .ok (.dup, 1) := by decide +kernel
theorem dX2_init_9 : decode cX2_init 9 = .ok (.invokespecial 11, 3) := by decide +kernel
theorem dX2_init_12 : decode cX2_init 12 = .ok (.putfield 12, 3) := by decide +kernel
theorem dX2_init_15 : decode cX2_init 15 = .ok (.aload_n 0, 1) := by decide +kernel
theorem dX2_init_16 : decode cX2_init 16 = .ok (.bipush 6, 2) := by decide +kernel
theorem dX2_init_18 : decode cX2_init 18 = .ok (.anewarray 9, 3) := by decide +kernel
theorem dX2_init_21 : decode cX2_init 21 = .ok (.putfield 18, 3) := by decide +kernel
theorem dX2_init_24 : decode cX2_init 24 = .ok (.aload_n 0, 1) := by decide +kernel
theorem dX2_init_25 : decode cX2_init 25 = .ok (.new 9, 3) := by decide +kernel
theorem dX2_init_28 : decode cX2_init 28 = .ok (.dup, 1) := by decide +kernel
theorem dX2_init_29 : decode cX2_init 29 = .ok (.invokespecial 11, 3) := by decide +kernel
theorem dX2_init_32 : decode cX2_init 32 = .ok (.putfield 22, 3) := by decide +kernel
theorem dX2_init_35 : decode cX2_init 35 = .ok (.aload_n 0, 1) := by decide +kernel
theorem dX2_init_36 : decode cX2_init 36 = .ok (.iconst 5, 1) := by decide +kernel
theorem dX2_init_37 : decode cX2_init 37 = .ok (.putfield 25, 3) := by decide +kernel
theorem dX2_init_40 : decode cX2_init 40 = .ok (.return_, 1) := by decide +kernel
theorem dX2_numbered_0 : decode cX2_numbered 0 = .ok (.iload_n 1, 1) := by decide +kernel
theorem dX2_numbered_1 : decode cX2_numbered 1 = .ok (.iconst 0, 1) := by decide +kernel
theorem dX2_numbered_2 : decode cX2_numbered 2 = .ok (.aload_n 0, 1) := by decide +kernel
theorem dX2_numbered_3 : decode cX2_numbered 3 = .ok (.getfield 29, 3) := by decide +kernel
theorem dX2_numbered_6 : decode cX2_numbered 6 = .ok (.iconst 1, 1) := by decide +kernel
theorem dX2_numbered_7 : decode cX2_numbered 7 = .ok (.isub, 1) := by decide +kernel
theorem dX2_numbered_8 : decode cX2_numbered 8 = .ok (.invokestatic 32, 3) := by decide +kernel
theorem dX2_numbered_11 : decode cX2_numbered 11 = .ok (.ifCond .eq 12, 3) := by decide +kernel
theorem dX2_numbered_14 : decode cX2_numbered 14 = .ok (.aload_n 0, 1) := by decide +kernel
theorem dX2_numbered_15 : decode cX2_numbered 15 = .ok (.getfield 18, 3) := by decide +kernel
theorem dX2_numbered_18 : decode cX2_numbered 18 = .ok (.iload_n 1, 1) := by decide +kernel
theorem dX2_numbered_19 : decode cX2_numbered 19 = .ok (.aaload, 1) := by decide +kernel
theorem dX2_numbered_20 : decode cX2_numbered 20 = .ok (.goto 7, 3) := by decide +kernel
theorem dX2_numbered_23 : decode cX2_numbered 23 = .ok (.aload_n 0, 1) := by decide +kernel
theorem dX2_numbered_24 : decode cX2_numbered 24 = .ok (.getfield 12, 3) := by decide +kernel
theorem dX2_numbered_27 : decode cX2_numbered 27 = .ok (.areturn, 1) := by decide +kernel
theorem dX2_numberGoneBy_0 : decode cX2_numberGoneBy 0 = .ok (.aload_n 0, 1) := by decide +kernel
theorem dX2_numberGoneBy_1 : decode cX2_numberGoneBy 1 = .ok (.getfield 29, 3) := by decide +kernel
theorem dX2_numberGoneBy_4 : decode cX2_numberGoneBy 4 = .ok (.iconst 1, 1) := by decide +kernel
theorem dX2_numberGoneBy_5 : decode cX2_numberGoneBy 5 = .ok (.isub, 1) := by decide +kernel
theorem dX2_numberGoneBy_6 : decode cX2_numberGoneBy 6 = .ok (.istore_n 3, 1) := by decide +kernel
theorem dX2_numberGoneBy_7 : decode cX2_numberGoneBy 7 = .ok (.iload_n 3, 1) := by decide +kernel
theorem dX2_numberGoneBy_8 : decode cX2_numberGoneBy 8 = .ok (.ifCond .lt 25, 3) := by decide +kernel
theorem dX2_numberGoneBy_11 : decode cX2_numberGoneBy 11 = .ok (.aload_n 0, 1) := by decide +kernel
theorem dX2_numberGoneBy_12 : decode cX2_numberGoneBy 12 = .ok (.getfield 18, 3) := by decide +kernel
theorem dX2_numberGoneBy_15 : decode cX2_numberGoneBy 15 = .ok (.iload_n 3, 1) := by decide +kernel
theorem dX2_numberGoneBy_16 : decode cX2_numberGoneBy 16 = .ok (.aaload, 1) := by decide +kernel
theorem dX2_numberGoneBy_17 : decode cX2_numberGoneBy 17 = .ok (.iload_n 1, 1) := by decide +kernel
theorem dX2_numberGoneBy_18 : decode cX2_numberGoneBy 18 = .ok (.iload_n 2, 1) := by decide +kernel
theorem dX2_numberGoneBy_19 : decode cX2_numberGoneBy 19 = .ok (.invokevirtual 36, 3) := by decide +kernel
theorem dX2_numberGoneBy_22 : decode cX2_numberGoneBy 22 = .ok (.ifCond .eq 5, 3) := by decide +kernel
theorem dX2_numberGoneBy_25 : decode cX2_numberGoneBy 25 = .ok (.iload_n 3, 1) := by decide +kernel
theorem dX2_numberGoneBy_26 : decode cX2_numberGoneBy 26 = .ok (.ireturn, 1) := by decide +kernel
theorem dX2_numberGoneBy_27 : decode cX2_numberGoneBy 27 = .ok (.iinc 3 (-1), 3) := by decide +kernel
theorem dX2_numberGoneBy_30 : decode cX2_numberGoneBy 30 = .ok (.goto (-23), 3) := by decide +kernel
theorem dX2_numberGoneBy_33 : decode cX2_numberGoneBy 33 = .ok (.iconst (-1), 1) := by decide +kernel
theorem dX2_numberGoneBy_34 : decode cX2_numberGoneBy 34 = .ok (.ireturn, 1) := by decide +kernel
theorem dX2_goneBy_0 : decode cX2_goneBy 0 = .ok (.aload_n 0, 1) := by decide +kernel
theorem dX2_goneBy_1 : decode cX2_goneBy 1 = .ok (.aload_n 0, 1) := by decide +kernel
theorem dX2_goneBy_2 : decode cX2_goneBy 2 = .ok (.iload_n 1, 1) := by decide +kernel
theorem dX2_goneBy_3 : decode cX2_goneBy 3 = .ok (.iload_n 2, 1) := by decide +kernel
theorem dX2_goneBy_4 : decode cX2_goneBy 4 = .ok (.invokevirtual 40, 3) := by decide +kernel
theorem dX2_goneBy_7 : decode cX2_goneBy 7 = .ok (.invokevirtual 44, 3) := by decide +kernel
theorem dX2_goneBy_10 : decode cX2_goneBy 10 = .ok (.areturn, 1) := by decide +kernel
theorem dX2_enact_0 : decode cX2_enact 0 = .ok (.aload_n 1, 1) := by decide +kernel
theorem dX2_enact_1 : decode cX2_enact 1 = .ok (.iconst 0, 1) := by decide +kernel
theorem dX2_enact_2 : decode cX2_enact 2 = .ok (.iconst 1, 1) := by decide +kernel
theorem dX2_enact_3 : decode cX2_enact 3 = .ok (.aload_n 1, 1) := by decide +kernel
theorem dX2_enact_4 : decode cX2_enact 4 = .ok (.invokevirtual 48, 3) := by decide +kernel
theorem dX2_enact_7 : decode cX2_enact 7 = .ok (.invokevirtual 54, 3) := by decide +kernel
theorem dX2_enact_10 : decode cX2_enact 10 = .ok (.iconst 0, 1) := by decide +kernel
theorem dX2_enact_11 : decode cX2_enact 11 = .ok (.istore_n 3, 1) := by decide +kernel
theorem dX2_enact_12 : decode cX2_enact 12 = .ok (.iload_n 3, 1) := by decide +kernel
theorem dX2_enact_13 : decode cX2_enact 13 = .ok (.bipush 8, 2) := by decide +kernel
theorem dX2_enact_15 : decode cX2_enact 15 = .ok (.if_icmp .ge 46, 3) := by decide +kernel
theorem dX2_enact_18 : decode cX2_enact 18 = .ok (.aload_n 1, 1) := by decide +kernel
theorem dX2_enact_19 : decode cX2_enact 19 = .ok (.getfield 58, 3) := by decide +kernel
theorem dX2_enact_22 : decode cX2_enact 22 = .ok (.iload_n 3, 1) := by decide +kernel
theorem dX2_enact_23 : decode cX2_enact 23 = .ok (.iaload, 1) := by decide +kernel
theorem dX2_enact_24 : decode cX2_enact 24 = .ok (.istore 4, 2) := by decide +kernel
theorem dX2_enact_26 : decode cX2_enact 26 = .ok (.aload_n 0, 1) := by decide +kernel
theorem dX2_enact_27 : decode cX2_enact 27 = .ok (.getfield 22, 3) := by decide +kernel
theorem dX2_enact_30 : decode cX2_enact 30 = .ok (.getfield 62, 3) := by decide +kernel
theorem dX2_enact_33 : decode cX2_enact 33 = .ok (.iload_n 3, 1) := by decide +kernel
theorem dX2_enact_34 : decode cX2_enact 34 = .ok (.iload 4, 2) := by decide +kernel
theorem dX2_enact_36 : decode cX2_enact 36 = .ok (.ldc 65, 2) := by decide +kernel
theorem dX2_enact_38 : decode cX2_enact 38 = .ok (.if_icmp .ne 7, 3) := by decide +kernel
theorem dX2_enact_41 : decode cX2_enact 41 = .ok (.iconst (-1), 1) := by decide +kernel
theorem dX2_enact_42 : decode cX2_enact 42 = .ok (.goto 12, 3) := by decide +kernel
theorem dX2_enact_45 : decode cX2_enact 45 = .ok (.iload_n 2, 1) := by decide +kernel
theorem dX2_enact_46 : decode cX2_enact 46 = .ok (.aload_n 0, 1) := by decide +kernel
theorem dX2_enact_47 : decode cX2_enact 47 = .ok (.getfield 25, 3) := by decide +kernel
theorem dX2_enact_50 : decode cX2_enact 50 = .ok (.iload 4, 2) := by decide +kernel
theorem dX2_enact_52 : decode cX2_enact 52 = .ok (.imul, 1) := by decide +kernel
theorem dX2_enact_53 : decode cX2_enact 53 = .ok (.iadd, 1) := by decide +kernel
theorem dX2_enact_54 : decode cX2_enact 54 = .ok (.iastore, 1) := by decide +kernel
theorem dX2_enact_55 : decode cX2_enact 55 = .ok (.iinc 3 1, 3) := by decide +kernel
theorem dX2_enact_58 : decode cX2_enact 58 = .ok (.goto (-46), 3) := by decide +kernel
theorem dX2_enact_61 : decode cX2_enact 61 = .ok (.aload_n 0, 1) := by decide +kernel
theorem dX2_enact_62 : decode cX2_enact 62 = .ok (.getfield 18, 3) := by decide +kernel
theorem dX2_enact_65 : decode cX2_enact 65 = .ok (.aload_n 0, 1) := by decide +kernel
theorem dX2_enact_66 : decode cX2_enact 66 = .ok (.getfield 29, 3) := by decide +kernel
theorem dX2_enact_69 : decode cX2_enact 69 = .ok (.aload_n 0, 1) := by decide +kernel
theorem dX2_enact_70 : decode cX2_enact 70 = .ok (.getfield 22, 3) := by decide +kernel
theorem dX2_enact_73 : decode cX2_enact 73 = .ok (.aastore, 1) := by decide +kernel
theorem dX2_enact_74 : decode cX2_enact 74 = .ok (.aload_n 0, 1) := by decide +kernel
theorem dX2_enact_75 : decode cX2_enact 75 = .ok (.new 9, 3) := by decide +kernel
theorem dX2_enact_78 : decode cX2_enact 78 = .ok (.dup, 1) := by decide +kernel
theorem dX2_enact_79 : decode cX2_enact 79 = .ok (.invokespecial 11, 3) := by decide +kernel
theorem dX2_enact_82 : decode cX2_enact 82 = .ok (.putfield 22, 3) := by decide +kernel
theorem dX2_enact_85 : decode cX2_enact 85 = .ok (.aload_n 0, 1) := by decide +kernel
theorem dX2_enact_86 : decode cX2_enact 86 = .ok (.dup, 1) := by decide +kernel
theorem dX2_enact_87 : decode cX2_enact 87 = .ok (.getfield 29, 3) := by decide +kernel
theorem dX2_enact_90 : decode cX2_enact 90 = .ok (.iconst 1, 1) := by decide +kernel
theorem dX2_enact_91 : decode cX2_enact 91 = .ok (.iadd, 1) := by decide +kernel
theorem dX2_enact_92 : decode cX2_enact 92 = .ok (.putfield 29, 3) := by decide +kernel
theorem dX2_enact_95 : decode cX2_enact 95 = .ok (.aload_n 0, 1) := by decide +kernel
theorem dX2_enact_96 : decode cX2_enact 96 = .ok (.getfield 29, 3) := by decide +kernel
theorem dX2_enact_99 : decode cX2_enact 99 = .ok (.iconst 1, 1) := by decide +kernel
theorem dX2_enact_100 : decode cX2_enact 100 = .ok (.isub, 1) := by decide +kernel
theorem dX2_enact_101 : decode cX2_enact 101 = .ok (.ireturn, 1) := by decide +kernel
theorem dX3_init_0 : decode cX3_init 0 = .ok (.aload_n 0, 1) := by decide +kernel
theorem dX3_init_1 : decode cX3_init 1 = .ok (.invokespecial 3, 3) := by decide +kernel
theorem dX3_init_4 : decode cX3_init 4 = .ok (.aload_n 0, 1) := by decide +kernel
theorem dX3_init_5 : decode cX3_init 5 = .ok (.iconst 0, 1) := by decide +kernel
theorem dX3_init_6 : decode cX3_init 6 = .ok (.putfield 9, 3) := by decide +kernel
theorem dX3_init_9 : decode cX3_init 9 = .ok (.aload_n 0, 1) := by decide +kernel
theorem dX3_init_10 : decode cX3_init 10 = .ok (.iconst (-1), 1) := by decide +kernel
theorem dX3_init_11 : decode cX3_init 11 = .ok (.putfield 15, 3) := by decide +kernel
theorem dX3_init_14 : decode cX3_init 14 = .ok (.aload_n 0, 1) := by decide +kernel
theorem dX3_init_15 : decode cX3_init 15 = .ok (.iconst (-1), 1) := by decide +kernel
theorem dX3_init_16 : decode cX3_init 16 = .ok (.putfield 18, 3) := by decide +kernel
theorem dX3_init_19 : decode cX3_init 19 = .ok (.aload_n 0, 1) := by decide +kernel
theorem dX3_init_20 : decode cX3_init 20 = .ok (.iconst (-1), 1) := by decide +kernel
theorem dX3_init_21 : decode cX3_init 21 = .ok (.putfield 21, 3) := by decide +kernel
theorem dX3_init_24 : decode cX3_init 24 = .ok (.aload_n 0, 1) := by decide +kernel
theorem dX3_init_25 : decode cX3_init 25 = .ok (.iconst (-1), 1) := by decide +kernel
theorem dX3_init_26 : decode cX3_init 26 = .ok (.putfield 24, 3) := by decide +kernel
theorem dX3_init_29 : decode cX3_init 29 = .ok (.aload_n 0, 1) := by decide +kernel
theorem dX3_init_30 : decode cX3_init 30 = .ok (.iconst (-1), 1) := by decide +kernel
theorem dX3_init_31 : decode cX3_init 31 = .ok (.putfield 27, 3) := by decide +kernel
theorem dX3_init_34 : decode cX3_init 34 = .ok (.aload_n 0, 1) := by decide +kernel
theorem dX3_init_35 : decode cX3_init 35 = .ok (.iconst (-1), 1) := by decide +kernel
theorem dX3_init_36 : decode cX3_init 36 = .ok (.putfield 30, 3) := by decide +kernel
theorem dX3_init_39 : decode cX3_init 39 = .ok (.aload_n 0, 1) := by decide +kernel
theorem dX3_init_40 : decode cX3_init 40 = .ok (.iconst (-1), 1) := by decide +kernel
theorem dX3_init_41 : decode cX3_init 41 = .ok (.putfield 33, 3) := by decide +kernel
theorem dX3_init_44 : decode cX3_init 44 = .ok (.return_, 1) := by decide +kernel
theorem dX3_waitsOnTheWay_0 : decode cX3_waitsOnTheWay 0 = .ok (.aload_n 0, 1) := by decide +kernel
theorem dX3_waitsOnTheWay_1 : decode cX3_waitsOnTheWay 1 = .ok (.getfield 9, 3) := by decide +kernel
theorem dX3_waitsOnTheWay_4 : decode cX3_waitsOnTheWay 4 = .ok (.ifCond .ne 18, 3) := by decide +kernel
theorem dX3_waitsOnTheWay_7 : decode cX3_waitsOnTheWay 7 = .ok (.aload_n 0, 1) := by decide +kernel
theorem dX3_waitsOnTheWay_8 : decode cX3_waitsOnTheWay 8 = .ok (.getfield 36, 3) := by decide +kernel
theorem dX3_waitsOnTheWay_11 : decode cX3_waitsOnTheWay 11 = .ok (.aload_n 0, 1) := by decide +kernel
theorem dX3_waitsOnTheWay_12 : decode cX3_waitsOnTheWay 12 = .ok (.getfield 39, 3) := by decide +kernel
theorem dX3_waitsOnTheWay_15 : decode cX3_waitsOnTheWay 15 = .ok (.if_icmp .eq 7, 3) := by decide +kernel
theorem dX3_waitsOnTheWay_18 : decode cX3_waitsOnTheWay 18 = .ok (.iconst 1, 1) := by decide +kernel
theorem dX3_waitsOnTheWay_19 : decode cX3_waitsOnTheWay 19 = .ok (.goto 4, 3) := by decide +kernel
theorem dX3_waitsOnTheWay_22 : decode cX3_waitsOnTheWay 22 = .ok (.iconst 0, 1) := by decide +kernel
theorem dX3_waitsOnTheWay_23 : decode cX3_waitsOnTheWay 23 = .ok (.ireturn, 1) := by decide +kernel
theorem dX3_setOut_0 : decode cX3_setOut 0 = .ok (.aload_n 0, 1) := by decide +kernel
theorem dX3_setOut_1 : decode cX3_setOut 1 = .ok (.iconst 1, 1) := by decide +kernel
theorem dX3_setOut_2 : decode cX3_setOut 2 = .ok (.putfield 9, 3) := by decide +kernel
theorem dX3_setOut_5 : decode cX3_setOut 5 = .ok (.aload_n 0, 1) := by decide +kernel
theorem dX3_setOut_6 : decode cX3_setOut 6 = .ok (.iload_n 1, 1) := by decide +kernel
theorem dX3_setOut_7 : decode cX3_setOut 7 = .ok (.putfield 15, 3) := by decide +kernel
theorem dX3_setOut_10 : decode cX3_setOut 10 = .ok (.aload_n 0, 1) := by decide +kernel
theorem dX3_setOut_11 : decode cX3_setOut 11 = .ok (.iload_n 2, 1) := by decide +kernel
theorem dX3_setOut_12 : decode cX3_setOut 12 = .ok (.putfield 18, 3) := by decide +kernel
theorem dX3_setOut_15 : decode cX3_setOut 15 = .ok (.return_, 1) := by decide +kernel
theorem dX3_waitIn_0 : decode cX3_waitIn 0 = .ok (.aload_n 0, 1) := by decide +kernel
theorem dX3_waitIn_1 : decode cX3_waitIn 1 = .ok (.iconst 0, 1) := by decide +kernel
theorem dX3_waitIn_2 : decode cX3_waitIn 2 = .ok (.putfield 9, 3) := by decide +kernel
theorem dX3_waitIn_5 : decode cX3_waitIn 5 = .ok (.aload_n 0, 1) := by decide +kernel
theorem dX3_waitIn_6 : decode cX3_waitIn 6 = .ok (.iload_n 1, 1) := by decide +kernel
theorem dX3_waitIn_7 : decode cX3_waitIn 7 = .ok (.putfield 36, 3) := by decide +kernel
theorem dX3_waitIn_10 : decode cX3_waitIn 10 = .ok (.aload_n 0, 1) := by decide +kernel
theorem dX3_waitIn_11 : decode cX3_waitIn 11 = .ok (.iconst (-1), 1) := by decide +kernel
theorem dX3_waitIn_12 : decode cX3_waitIn 12 = .ok (.putfield 15, 3) := by decide +kernel
theorem dX3_waitIn_15 : decode cX3_waitIn 15 = .ok (.aload_n 0, 1) := by decide +kernel
theorem dX3_waitIn_16 : decode cX3_waitIn 16 = .ok (.iconst (-1), 1) := by decide +kernel
theorem dX3_waitIn_17 : decode cX3_waitIn 17 = .ok (.putfield 18, 3) := by decide +kernel
theorem dX3_waitIn_20 : decode cX3_waitIn 20 = .ok (.return_, 1) := by decide +kernel
theorem dX3_give_0 : decode cX3_give 0 = .ok (.aload_n 0, 1) := by decide +kernel
theorem dX3_give_1 : decode cX3_give 1 = .ok (.iconst 2, 1) := by decide +kernel
theorem dX3_give_2 : decode cX3_give 2 = .ok (.putfield 9, 3) := by decide +kernel
theorem dX3_give_5 : decode cX3_give 5 = .ok (.aload_n 0, 1) := by decide +kernel
theorem dX3_give_6 : decode cX3_give 6 = .ok (.iload_n 1, 1) := by decide +kernel
theorem dX3_give_7 : decode cX3_give 7 = .ok (.putfield 21, 3) := by decide +kernel
theorem dX3_give_10 : decode cX3_give 10 = .ok (.return_, 1) := by decide +kernel
theorem dX3_takeOver_0 : decode cX3_takeOver 0 = .ok (.aload_n 0, 1) := by decide +kernel
theorem dX3_takeOver_1 : decode cX3_takeOver 1 = .ok (.aload_n 1, 1) := by decide +kernel
theorem dX3_takeOver_2 : decode cX3_takeOver 2 = .ok (.getfield 9, 3) := by decide +kernel
theorem dX3_takeOver_5 : decode cX3_takeOver 5 = .ok (.putfield 9, 3) := by decide +kernel
theorem dX3_takeOver_8 : decode cX3_takeOver 8 = .ok (.aload_n 0, 1) := by decide +kernel
theorem dX3_takeOver_9 : decode cX3_takeOver 9 = .ok (.aload_n 1, 1) := by decide +kernel
theorem dX3_takeOver_10 : decode cX3_takeOver 10 = .ok (.getfield 36, 3) := by decide +kernel
theorem dX3_takeOver_13 : decode cX3_takeOver 13 = .ok (.putfield 36, 3) := by decide +kernel
theorem dX3_takeOver_16 : decode cX3_takeOver 16 = .ok (.aload_n 0, 1) := by decide +kernel
theorem dX3_takeOver_17 : decode cX3_takeOver 17 = .ok (.aload_n 1, 1) := by decide +kernel
theorem dX3_takeOver_18 : decode cX3_takeOver 18 = .ok (.getfield 15, 3) := by decide +kernel
theorem dX3_takeOver_21 : decode cX3_takeOver 21 = .ok (.putfield 15, 3) := by decide +kernel
theorem dX3_takeOver_24 : decode cX3_takeOver 24 = .ok (.aload_n 0, 1) := by decide +kernel
theorem dX3_takeOver_25 : decode cX3_takeOver 25 = .ok (.aload_n 1, 1) := by decide +kernel
theorem dX3_takeOver_26 : decode cX3_takeOver 26 = .ok (.getfield 18, 3) := by decide +kernel
theorem dX3_takeOver_29 : decode cX3_takeOver 29 = .ok (.putfield 18, 3) := by decide +kernel
theorem dX3_takeOver_32 : decode cX3_takeOver 32 = .ok (.aload_n 0, 1) := by decide +kernel
theorem dX3_takeOver_33 : decode cX3_takeOver 33 = .ok (.aload_n 1, 1) := by decide +kernel
theorem dX3_takeOver_34 : decode cX3_takeOver 34 = .ok (.getfield 21, 3) := by decide +kernel
theorem dX3_takeOver_37 : decode cX3_takeOver 37 = .ok (.putfield 21, 3) := by decide +kernel
theorem dX3_takeOver_40 : decode cX3_takeOver 40 = .ok (.aload_n 0, 1) := by decide +kernel
theorem dX3_takeOver_41 : decode cX3_takeOver 41 = .ok (.aload_n 1, 1) := by decide +kernel
theorem dX3_takeOver_42 : decode cX3_takeOver 42 = .ok (.getfield 42, 3) := by decide +kernel
theorem dX3_takeOver_45 : decode cX3_takeOver 45 = .ok (.putfield 42, 3) := by decide +kernel
theorem dX3_takeOver_48 : decode cX3_takeOver 48 = .ok (.return_, 1) := by decide +kernel
theorem dX4_init_0 : decode cX4_init 0 = .ok (.aload_n 0, 1) := by decide +kernel
theorem dX4_init_1 : decode cX4_init 1 = .ok (.invokespecial 3, 3) := by decide +kernel
theorem dX4_init_4 : decode cX4_init 4 = .ok (.aload_n 0, 1) := by decide +kernel
theorem dX4_init_5 : decode cX4_init 5 = .ok (.bipush 8, 2) := by decide +kernel
theorem dX4_init_7 : decode cX4_init 7 = .ok (.newarray .int, 2) := by decide +kernel
theorem dX4_init_9 : decode cX4_init 9 = .ok (.putfield 9, 3) := by decide +kernel
theorem dX4_init_12 : decode cX4_init 12 = .ok (.aload_n 0, 1) := by decide +kernel
theorem dX4_init_13 : decode cX4_init 13 = .ok (.bipush 8, 2) := by decide +kernel
theorem dX4_init_15 : decode cX4_init 15 = .ok (.newarray .int, 2) := by decide +kernel
theorem dX4_init_17 : decode cX4_init 17 = .ok (.putfield 15, 3) := by decide +kernel
theorem dX4_init_20 : decode cX4_init 20 = .ok (.aload_n 0, 1) := by decide +kernel
theorem dX4_init_21 : decode cX4_init 21 = .ok (.bipush 12, 2) := by decide +kernel
theorem dX4_init_23 : decode cX4_init 23 = .ok (.newarray .int, 2) := by decide +kernel
theorem dX4_init_25 : decode cX4_init 25 = .ok (.putfield 18, 3) := by decide +kernel
theorem dX4_init_28 : decode cX4_init 28 = .ok (.aload_n 0, 1) := by decide +kernel
theorem dX4_init_29 : decode cX4_init 29 = .ok (.bipush 12, 2) := by decide +kernel
theorem dX4_init_31 : decode cX4_init 31 = .ok (.newarray .int, 2) := by decide +kernel
theorem dX4_init_33 : decode cX4_init 33 = .ok (.putfield 21, 3) := by decide +kernel
theorem dX4_init_36 : decode cX4_init 36 = .ok (.aload_n 0, 1) := by decide +kernel
theorem dX4_init_37 : decode cX4_init 37 = .ok (.bipush 12, 2) := by decide +kernel
theorem dX4_init_39 : decode cX4_init 39 = .ok (.newarray .int, 2) := by decide +kernel
theorem dX4_init_41 : decode cX4_init 41 = .ok (.putfield 24, 3) := by decide +kernel
theorem dX4_init_44 : decode cX4_init 44 = .ok (.aload_n 0, 1) := by decide +kernel
theorem dX4_init_45 : decode cX4_init 45 = .ok (.bipush 12, 2) := by decide +kernel
theorem dX4_init_47 : decode cX4_init 47 = .ok (.newarray .boolean, 2) := by decide +kernel
theorem dX4_init_49 : decode cX4_init 49 = .ok (.putfield 27, 3) := by decide +kernel
theorem dX4_init_52 : decode cX4_init 52 = .ok (.aload_n 0, 1) := by decide +kernel
theorem dX4_init_53 : decode cX4_init 53 = .ok (.new 31, 3) := by decide +kernel
theorem dX4_init_56 : decode cX4_init 56 = .ok (.dup, 1) := by decide +kernel
theorem dX4_init_57 : decode cX4_init 57 = .ok (.bipush 12, 2) := by decide +kernel
theorem dX4_init_59 : decode cX4_init 59 = .ok (.invokespecial 33, 3) := by decide +kernel
theorem dX4_init_62 : decode cX4_init 62 = .ok (.putfield 36, 3) := by decide +kernel
theorem dX4_init_65 : decode cX4_init 65 = .ok (.aload_n 0, 1) := by decide +kernel
theorem dX4_init_66 : decode cX4_init 66 = .ok (.new 31, 3) := by decide +kernel
theorem dX4_init_69 : decode cX4_init 69 = .ok (.dup, 1) := by decide +kernel
theorem dX4_init_70 : decode cX4_init 70 = .ok (.bipush 6, 2) := by decide +kernel
theorem dX4_init_72 : decode cX4_init 72 = .ok (.invokespecial 33, 3) := by decide +kernel
theorem dX4_init_75 : decode cX4_init 75 = .ok (.putfield 40, 3) := by decide +kernel
theorem dX4_init_78 : decode cX4_init 78 = .ok (.aload_n 0, 1) := by decide +kernel
theorem dX4_init_79 : decode cX4_init 79 = .ok (.bipush 8, 2) := by decide +kernel
theorem dX4_init_81 : decode cX4_init 81 = .ok (.newarray .int, 2) := by decide +kernel
theorem dX4_init_83 : decode cX4_init 83 = .ok (.putfield 43, 3) := by decide +kernel
theorem dX4_init_86 : decode cX4_init 86 = .ok (.aload_n 0, 1) := by decide +kernel
theorem dX4_init_87 : decode cX4_init 87 = .ok (.getfield 15, 3) := by decide +kernel
theorem dX4_init_90 : decode cX4_init 90 = .ok (.sipush 1439, 3) := by decide +kernel
theorem dX4_init_93 : decode cX4_init 93 = .ok (.invokestatic 46, 3) := by decide +kernel
theorem dX4_init_96 : decode cX4_init 96 = .ok (.return_, 1) := by decide +kernel
theorem dX4_join_0 : decode cX4_join 0 = .ok (.aload_n 0, 1) := by decide +kernel
theorem dX4_join_1 : decode cX4_join 1 = .ok (.getfield 18, 3) := by decide +kernel
theorem dX4_join_4 : decode cX4_join 4 = .ok (.aload_n 0, 1) := by decide +kernel
theorem dX4_join_5 : decode cX4_join 5 = .ok (.getfield 52, 3) := by decide +kernel
theorem dX4_join_8 : decode cX4_join 8 = .ok (.iload_n 1, 1) := by decide +kernel
theorem dX4_join_9 : decode cX4_join 9 = .ok (.iastore, 1) := by decide +kernel
theorem dX4_join_10 : decode cX4_join 10 = .ok (.aload_n 0, 1) := by decide +kernel
theorem dX4_join_11 : decode cX4_join 11 = .ok (.getfield 21, 3) := by decide +kernel
theorem dX4_join_14 : decode cX4_join 14 = .ok (.aload_n 0, 1) := by decide +kernel
theorem dX4_join_15 : decode cX4_join 15 = .ok (.getfield 52, 3) := by decide +kernel
theorem dX4_join_18 : decode cX4_join 18 = .ok (.iload_n 2, 1) := by decide +kernel
theorem dX4_join_19 : decode cX4_join 19 = .ok (.iastore, 1) := by decide +kernel
theorem dX4_join_20 : decode cX4_join 20 = .ok (.aload_n 0, 1) := by decide +kernel
theorem dX4_join_21 : decode cX4_join 21 = .ok (.getfield 24, 3) := by decide +kernel
theorem dX4_join_24 : decode cX4_join 24 = .ok (.aload_n 0, 1) := by decide +kernel
theorem dX4_join_25 : decode cX4_join 25 = .ok (.getfield 52, 3) := by decide +kernel
theorem dX4_join_28 : decode cX4_join 28 = .ok (.iload_n 3, 1) := by decide +kernel
theorem dX4_join_29 : decode cX4_join 29 = .ok (.iastore, 1) := by decide +kernel
theorem dX4_join_30 : decode cX4_join 30 = .ok (.aload_n 0, 1) := by decide +kernel
theorem dX4_join_31 : decode cX4_join 31 = .ok (.getfield 27, 3) := by decide +kernel
theorem dX4_join_34 : decode cX4_join 34 = .ok (.aload_n 0, 1) := by decide +kernel
theorem dX4_join_35 : decode cX4_join 35 = .ok (.getfield 52, 3) := by decide +kernel
theorem dX4_join_38 : decode cX4_join 38 = .ok (.iload 4, 2) := by decide +kernel
theorem dX4_join_40 : decode cX4_join 40 = .ok (.bastore, 1) := by decide +kernel
theorem dX4_join_41 : decode cX4_join 41 = .ok (.aload_n 0, 1) := by decide +kernel
theorem dX4_join_42 : decode cX4_join 42 = .ok (.dup, 1) := by decide +kernel
theorem dX4_join_43 : decode cX4_join 43 = .ok (.getfield 52, 3) := by decide +kernel
theorem dX4_join_46 : decode cX4_join 46 = .ok (.iconst 1, 1) := by decide +kernel
theorem dX4_join_47 : decode cX4_join 47 = .ok (.iadd, 1) := by decide +kernel
theorem dX4_join_48 : decode cX4_join 48 = .ok (.putfield 52, 3) := by decide +kernel
theorem dX4_join_51 : decode cX4_join 51 = .ok (.aload_n 0, 1) := by decide +kernel
theorem dX4_join_52 : decode cX4_join 52 = .ok (.getfield 52, 3) := by decide +kernel
theorem dX4_join_55 : decode cX4_join 55 = .ok (.iconst 1, 1) := by decide +kernel
theorem dX4_join_56 : decode cX4_join 56 = .ok (.isub, 1) := by decide +kernel
theorem dX4_join_57 : decode cX4_join 57 = .ok (.ireturn, 1) := by decide +kernel
theorem dX4_joins_0 : decode cX4_joins 0 = .ok (.iconst 0, 1) := by decide +kernel
theorem dX4_joins_1 : decode cX4_joins 1 = .ok (.istore_n 3, 1) := by decide +kernel
theorem dX4_joins_2 : decode cX4_joins 2 = .ok (.iload_n 3, 1) := by decide +kernel
theorem dX4_joins_3 : decode cX4_joins 3 = .ok (.aload_n 0, 1) := by decide +kernel
theorem dX4_joins_4 : decode cX4_joins 4 = .ok (.getfield 52, 3) := by decide +kernel
theorem dX4_joins_7 : decode cX4_joins 7 = .ok (.if_icmp .ge 21, 3) := by decide +kernel
theorem dX4_joins_10 : decode cX4_joins 10 = .ok (.aload_n 0, 1) := by decide +kernel
theorem dX4_joins_11 : decode cX4_joins 11 = .ok (.iload_n 3, 1) := by decide +kernel
theorem dX4_joins_12 : decode cX4_joins 12 = .ok (.iload_n 1, 1) := by decide +kernel
theorem dX4_joins_13 : decode cX4_joins 13 = .ok (.invokevirtual 56, 3) := by decide +kernel
theorem dX4_joins_16 : decode cX4_joins 16 = .ok (.iload_n 2, 1) := by decide +kernel
theorem dX4_joins_17 : decode cX4_joins 17 = .ok (.if_icmp .ne 5, 3) := by decide +kernel
theorem dX4_joins_20 : decode cX4_joins 20 = .ok (.iconst 1, 1) := by decide +kernel
theorem dX4_joins_21 : decode cX4_joins 21 = .ok (.ireturn, 1) := by decide +kernel
theorem dX4_joins_22 : decode cX4_joins 22 = .ok (.iinc 3 1, 3) := by decide +kernel
theorem dX4_joins_25 : decode cX4_joins 25 = .ok (.goto (-23), 3) := by decide +kernel
theorem dX4_joins_28 : decode cX4_joins 28 = .ok (.iconst 0, 1) := by decide +kernel
theorem dX4_joins_29 : decode cX4_joins 29 = .ok (.ireturn, 1) := by decide +kernel
theorem dX4_otherEnd_0 : decode cX4_otherEnd 0 = .ok (.aload_n 0, 1) := by decide +kernel
theorem dX4_otherEnd_1 : decode cX4_otherEnd 1 = .ok (.getfield 18, 3) := by decide +kernel
theorem dX4_otherEnd_4 : decode cX4_otherEnd 4 = .ok (.iload_n 1, 1) := by decide +kernel
theorem dX4_otherEnd_5 : decode cX4_otherEnd 5 = .ok (.iaload, 1) := by decide +kernel
theorem dX4_otherEnd_6 : decode cX4_otherEnd 6 = .ok (.iload_n 2, 1) := by decide +kernel
theorem dX4_otherEnd_7 : decode cX4_otherEnd 7 = .ok (.if_icmp .ne 10, 3) := by decide +kernel
theorem dX4_otherEnd_10 : decode cX4_otherEnd 10 = .ok (.aload_n 0, 1) := by decide +kernel
theorem dX4_otherEnd_11 : decode cX4_otherEnd 11 = .ok (.getfield 21, 3) := by decide +kernel
theorem dX4_otherEnd_14 : decode cX4_otherEnd 14 = .ok (.iload_n 1, 1) := by decide +kernel
theorem dX4_otherEnd_15 : decode cX4_otherEnd 15 = .ok (.iaload, 1) := by decide +kernel
theorem dX4_otherEnd_16 : decode cX4_otherEnd 16 = .ok (.ireturn, 1) := by decide +kernel
theorem dX4_otherEnd_17 : decode cX4_otherEnd 17 = .ok (.aload_n 0, 1) := by decide +kernel
theorem dX4_otherEnd_18 : decode cX4_otherEnd 18 = .ok (.getfield 21, 3) := by decide +kernel
theorem dX4_otherEnd_21 : decode cX4_otherEnd 21 = .ok (.iload_n 1, 1) := by decide +kernel
theorem dX4_otherEnd_22 : decode cX4_otherEnd 22 = .ok (.iaload, 1) := by decide +kernel
theorem dX4_otherEnd_23 : decode cX4_otherEnd 23 = .ok (.iload_n 2, 1) := by decide +kernel
theorem dX4_otherEnd_24 : decode cX4_otherEnd 24 = .ok (.if_icmp .ne 12, 3) := by decide +kernel
theorem dX4_otherEnd_27 : decode cX4_otherEnd 27 = .ok (.aload_n 0, 1) := by decide +kernel
theorem dX4_otherEnd_28 : decode cX4_otherEnd 28 = .ok (.getfield 18, 3) := by decide +kernel
theorem dX4_otherEnd_31 : decode cX4_otherEnd 31 = .ok (.iload_n 1, 1) := by decide +kernel
theorem dX4_otherEnd_32 : decode cX4_otherEnd 32 = .ok (.iaload, 1) := by decide +kernel
theorem dX4_otherEnd_33 : decode cX4_otherEnd 33 = .ok (.goto 4, 3) := by decide +kernel
theorem dX4_otherEnd_36 : decode cX4_otherEnd 36 = .ok (.iconst (-1), 1) := by decide +kernel
theorem dX4_otherEnd_37 : decode cX4_otherEnd 37 = .ok (.ireturn, 1) := by decide +kernel
theorem dX4_isOpen_0 : decode cX4_isOpen 0 = .ok (.iload_n 2, 1) := by decide +kernel
theorem dX4_isOpen_1 : decode cX4_isOpen 1 = .ok (.sipush 1440, 3) := by decide +kernel
theorem dX4_isOpen_4 : decode cX4_isOpen 4 = .ok (.irem, 1) := by decide +kernel
theorem dX4_isOpen_5 : decode cX4_isOpen 5 = .ok (.aload_n 0, 1) := by decide +kernel
theorem dX4_isOpen_6 : decode cX4_isOpen 6 = .ok (.getfield 9, 3) := by decide +kernel
theorem dX4_isOpen_9 : decode cX4_isOpen 9 = .ok (.iload_n 1, 1) := by decide +kernel
theorem dX4_isOpen_10 : decode cX4_isOpen 10 = .ok (.iaload, 1) := by decide +kernel
theorem dX4_isOpen_11 : decode cX4_isOpen 11 = .ok (.aload_n 0, 1) := by decide +kernel
theorem dX4_isOpen_12 : decode cX4_isOpen 12 = .ok (.getfield 15, 3) := by decide +kernel
theorem dX4_isOpen_15 : decode cX4_isOpen 15 = .ok (.iload_n 1, 1) := by decide +kernel
theorem dX4_isOpen_16 : decode cX4_isOpen 16 = .ok (.iaload, 1) := by decide +kernel
theorem dX4_isOpen_17 : decode cX4_isOpen 17 = .ok (.invokestatic 60, 3) := by decide +kernel
theorem dX4_isOpen_20 : decode cX4_isOpen 20 = .ok (.ireturn, 1) := by decide +kernel
theorem dX4_areEndsOpen_0 : decode cX4_areEndsOpen 0 = .ok (.aload_n 0, 1) := by decide +kernel
theorem dX4_areEndsOpen_1 : decode cX4_areEndsOpen 1 = .ok (.aload_n 0, 1) := by decide +kernel
theorem dX4_areEndsOpen_2 : decode cX4_areEndsOpen 2 = .ok (.getfield 18, 3) := by decide +kernel
theorem dX4_areEndsOpen_5 : decode cX4_areEndsOpen 5 = .ok (.iload_n 1, 1) := by decide +kernel
theorem dX4_areEndsOpen_6 : decode cX4_areEndsOpen 6 = .ok (.iaload, 1) := by decide +kernel
theorem dX4_areEndsOpen_7 : decode cX4_areEndsOpen 7 = .ok (.iload_n 2, 1) := by decide +kernel
theorem dX4_areEndsOpen_8 : decode cX4_areEndsOpen 8 = .ok (.invokevirtual 64, 3) := by decide +kernel
theorem dX4_areEndsOpen_11 : decode cX4_areEndsOpen 11 = .ok (.ifCond .eq 21, 3) := by decide +kernel
theorem dX4_areEndsOpen_14 : decode cX4_areEndsOpen 14 = .ok (.aload_n 0, 1) := by decide +kernel
theorem dX4_areEndsOpen_15 : decode cX4_areEndsOpen 15 = .ok (.aload_n 0, 1) := by decide +kernel
theorem dX4_areEndsOpen_16 : decode cX4_areEndsOpen 16 = .ok (.getfield 21, 3) := by decide +kernel
theorem dX4_areEndsOpen_19 : decode cX4_areEndsOpen 19 = .ok (.iload_n 1, 1) := by decide +kernel
theorem dX4_areEndsOpen_20 : decode cX4_areEndsOpen 20 = .ok (.iaload, 1) := by decide +kernel
theorem dX4_areEndsOpen_21 : decode cX4_areEndsOpen 21 = .ok (.iload_n 2, 1) := by decide +kernel
theorem dX4_areEndsOpen_22 : decode cX4_areEndsOpen 22 = .ok (.invokevirtual 64, 3) := by decide +kernel
theorem dX4_areEndsOpen_25 : decode cX4_areEndsOpen 25 = .ok (.ifCond .eq 7, 3) := by decide +kernel
theorem dX4_areEndsOpen_28 : decode cX4_areEndsOpen 28 = .ok (.iconst 1, 1) := by decide +kernel
theorem dX4_areEndsOpen_29 : decode cX4_areEndsOpen 29 = .ok (.goto 4, 3) := by decide +kernel
theorem dX4_areEndsOpen_32 : decode cX4_areEndsOpen 32 = .ok (.iconst 0, 1) := by decide +kernel
theorem dX4_areEndsOpen_33 : decode cX4_areEndsOpen 33 = .ok (.ireturn, 1) := by decide +kernel
theorem dX4_allWires_0 : decode cX4_allWires 0 = .ok (.iconst 1, 1) := by decide +kernel
theorem dX4_allWires_1 : decode cX4_allWires 1 = .ok (.aload_n 0, 1) := by decide +kernel
theorem dX4_allWires_2 : decode cX4_allWires 2 = .ok (.getfield 52, 3) := by decide +kernel
theorem dX4_allWires_5 : decode cX4_allWires 5 = .ok (.ishl, 1) := by decide +kernel
theorem dX4_allWires_6 : decode cX4_allWires 6 = .ok (.iconst 1, 1) := by decide +kernel
theorem dX4_allWires_7 : decode cX4_allWires 7 = .ok (.isub, 1) := by decide +kernel
theorem dX4_allWires_8 : decode cX4_allWires 8 = .ok (.ireturn, 1) := by decide +kernel
theorem dX4_upIn_0 : decode cX4_upIn 0 = .ok (.aload_n 0, 1) := by decide +kernel
theorem dX4_upIn_1 : decode cX4_upIn 1 = .ok (.invokevirtual 68, 3) := by decide +kernel
theorem dX4_upIn_4 : decode cX4_upIn 4 = .ok (.aload_n 0, 1) := by decide +kernel
theorem dX4_upIn_5 : decode cX4_upIn 5 = .ok (.getfield 36, 3) := by decide +kernel
theorem dX4_upIn_8 : decode cX4_upIn 8 = .ok (.iload_n 1, 1) := by decide +kernel
theorem dX4_upIn_9 : decode cX4_upIn 9 = .ok (.invokevirtual 72, 3) := by decide +kernel
theorem dX4_upIn_12 : decode cX4_upIn 12 = .ok (.iconst (-1), 1) := by decide +kernel
theorem dX4_upIn_13 : decode cX4_upIn 13 = .ok (.ixor, 1) := by decide +kernel
theorem dX4_upIn_14 : decode cX4_upIn 14 = .ok (.iand, 1) := by decide +kernel
theorem dX4_upIn_15 : decode cX4_upIn 15 = .ok (.aload_n 0, 1) := by decide +kernel
theorem dX4_upIn_16 : decode cX4_upIn 16 = .ok (.getfield 40, 3) := by decide +kernel
theorem dX4_upIn_19 : decode cX4_upIn 19 = .ok (.iload_n 1, 1) := by decide +kernel
theorem dX4_upIn_20 : decode cX4_upIn 20 = .ok (.invokevirtual 72, 3) := by decide +kernel
theorem dX4_upIn_23 : decode cX4_upIn 23 = .ok (.iconst (-1), 1) := by decide +kernel
theorem dX4_upIn_24 : decode cX4_upIn 24 = .ok (.ixor, 1) := by decide +kernel
theorem dX4_upIn_25 : decode cX4_upIn 25 = .ok (.iand, 1) := by decide +kernel
theorem dX4_upIn_26 : decode cX4_upIn 26 = .ok (.ireturn, 1) := by decide +kernel
theorem dX4_taken_0 : decode cX4_taken 0 = .ok (.iload_n 2, 1) := by decide +kernel
theorem dX4_taken_1 : decode cX4_taken 1 = .ok (.aload_n 0, 1) := by decide +kernel
theorem dX4_taken_2 : decode cX4_taken 2 = .ok (.getfield 24, 3) := by decide +kernel
theorem dX4_taken_5 : decode cX4_taken 5 = .ok (.iload_n 1, 1) := by decide +kernel
theorem dX4_taken_6 : decode cX4_taken 6 = .ok (.iaload, 1) := by decide +kernel
theorem dX4_taken_7 : decode cX4_taken 7 = .ok (.iadd, 1) := by decide +kernel
theorem dX4_taken_8 : decode cX4_taken 8 = .ok (.iconst 1, 1) := by decide +kernel
theorem dX4_taken_9 : decode cX4_taken 9 = .ok (.isub, 1) := by decide +kernel
theorem dX4_taken_10 : decode cX4_taken 10 = .ok (.aload_n 0, 1) := by decide +kernel
theorem dX4_taken_11 : decode cX4_taken 11 = .ok (.getfield 24, 3) := by decide +kernel
theorem dX4_taken_14 : decode cX4_taken 14 = .ok (.iload_n 1, 1) := by decide +kernel
theorem dX4_taken_15 : decode cX4_taken 15 = .ok (.iaload, 1) := by decide +kernel
theorem dX4_taken_16 : decode cX4_taken 16 = .ok (.idiv, 1) := by decide +kernel
theorem dX4_taken_17 : decode cX4_taken 17 = .ok (.ireturn, 1) := by decide +kernel
theorem dX4_measureTo_0 : decode cX4_measureTo 0 = .ok (.aload_n 0, 1) := by decide +kernel
theorem dX4_measureTo_1 : decode cX4_measureTo 1 = .ok (.getfield 43, 3) := by decide +kernel
theorem dX4_measureTo_4 : decode cX4_measureTo 4 = .ok (.ldc 76, 2) := by decide +kernel
theorem dX4_measureTo_6 : decode cX4_measureTo 6 = .ok (.invokestatic 46, 3) := by decide +kernel
theorem dX4_measureTo_9 : decode cX4_measureTo 9 = .ok (.aload_n 0, 1) := by decide +kernel
theorem dX4_measureTo_10 : decode cX4_measureTo 10 = .ok (.getfield 43, 3) := by decide +kernel
theorem dX4_measureTo_13 : decode cX4_measureTo 13 = .ok (.iload_n 1, 1) := by decide +kernel
theorem dX4_measureTo_14 : decode cX4_measureTo 14 = .ok (.iconst 0, 1) := by decide +kernel
theorem dX4_measureTo_15 : decode cX4_measureTo 15 = .ok (.iastore, 1) := by decide +kernel
theorem dX4_measureTo_16 : decode cX4_measureTo 16 = .ok (.iconst 1, 1) := by decide +kernel
theorem dX4_measureTo_17 : decode cX4_measureTo 17 = .ok (.istore 4, 2) := by decide +kernel
theorem dX4_measureTo_19 : decode cX4_measureTo 19 = .ok (.iconst 0, 1) := by decide +kernel
theorem dX4_measureTo_20 : decode cX4_measureTo 20 = .ok (.istore 5, 2) := by decide +kernel
theorem dX4_measureTo_22 : decode cX4_measureTo 22 = .ok (.iload 5, 2) := by decide +kernel
theorem dX4_measureTo_24 : decode cX4_measureTo 24 = .ok (.bipush 8, 2) := by decide +kernel
theorem dX4_measureTo_26 : decode cX4_measureTo 26 = .ok (.if_icmp .ge 63, 3) := by decide +kernel
theorem dX4_measureTo_29 : decode cX4_measureTo 29 = .ok (.iload 4, 2) := by decide +kernel
theorem dX4_measureTo_31 : decode cX4_measureTo 31 = .ok (.ifCond .eq 58, 3) := by decide +kernel
theorem dX4_measureTo_34 : decode cX4_measureTo 34 = .ok (.iconst 0, 1) := by decide +kernel
theorem dX4_measureTo_35 : decode cX4_measureTo 35 = .ok (.istore 4, 2) := by decide +kernel
theorem dX4_measureTo_37 : decode cX4_measureTo 37 = .ok (.iconst 0, 1) := by decide +kernel
theorem dX4_measureTo_38 : decode cX4_measureTo 38 = .ok (.istore 6, 2) := by decide +kernel
theorem dX4_measureTo_40 : decode cX4_measureTo 40 = .ok (.iload 6, 2) := by decide +kernel
theorem dX4_measureTo_42 : decode cX4_measureTo 42 = .ok (.aload_n 0, 1) := by decide +kernel
theorem dX4_measureTo_43 : decode cX4_measureTo 43 = .ok (.getfield 52, 3) := by decide +kernel
theorem dX4_measureTo_46 : decode cX4_measureTo 46 = .ok (.if_icmp .ge 37, 3) := by decide +kernel
theorem dX4_measureTo_49 : decode cX4_measureTo 49 = .ok (.iload_n 3, 1) := by decide +kernel
theorem dX4_measureTo_50 : decode cX4_measureTo 50 = .ok (.iload 6, 2) := by decide +kernel
theorem dX4_measureTo_52 : decode cX4_measureTo 52 = .ok (.invokestatic 77, 3) := by decide +kernel
theorem dX4_measureTo_55 : decode cX4_measureTo 55 = .ok (.ifCond .eq 22, 3) := by decide +kernel
theorem dX4_measureTo_58 : decode cX4_measureTo 58 = .ok (.aload_n 0, 1) := by decide +kernel
theorem dX4_measureTo_59 : decode cX4_measureTo 59 = .ok (.iload 6, 2) := by decide +kernel
theorem dX4_measureTo_61 : decode cX4_measureTo 61 = .ok (.aload_n 0, 1) := by decide +kernel
theorem dX4_measureTo_62 : decode cX4_measureTo 62 = .ok (.iload 6, 2) := by decide +kernel
theorem dX4_measureTo_64 : decode cX4_measureTo 64 = .ok (.iload_n 2, 1) := by decide +kernel
theorem dX4_measureTo_65 : decode cX4_measureTo 65 = .ok (.invokevirtual 80, 3) := by decide +kernel
theorem dX4_measureTo_68 : decode cX4_measureTo 68 = .ok (.invokevirtual 83, 3) := by decide +kernel
theorem dX4_measureTo_71 : decode cX4_measureTo 71 = .ok (.ifCond .eq 6, 3) := by decide +kernel
theorem dX4_measureTo_74 : decode cX4_measureTo 74 = .ok (.iconst 1, 1) := by decide +kernel
theorem dX4_measureTo_75 : decode cX4_measureTo 75 = .ok (.istore 4, 2) := by decide +kernel
theorem dX4_measureTo_77 : decode cX4_measureTo 77 = .ok (.iinc 6 1, 3) := by decide +kernel
theorem dX4_measureTo_80 : decode cX4_measureTo 80 = .ok (.goto (-40), 3) := by decide +kernel
theorem dX4_measureTo_83 : decode cX4_measureTo 83 = .ok (.iinc 5 1, 3) := by decide +kernel
theorem dX4_measureTo_86 : decode cX4_measureTo 86 = .ok (.goto (-64), 3) := by decide +kernel
theorem dX4_measureTo_89 : decode cX4_measureTo 89 = .ok (.return_, 1) := by decide +kernel
theorem dX4_shorten_0 : decode cX4_shorten 0 = .ok (.aload_n 0, 1) := by decide +kernel
theorem dX4_shorten_1 : decode cX4_shorten 1 = .ok (.getfield 18, 3) := by decide +kernel
theorem dX4_shorten_4 : decode cX4_shorten 4 = .ok (.iload_n 1, 1) := by decide +kernel
theorem dX4_shorten_5 : decode cX4_shorten 5 = .ok (.iaload, 1) := by decide +kernel
theorem dX4_shorten_6 : decode cX4_shorten 6 = .ok (.istore_n 3, 1) := by decide +kernel
theorem dX4_shorten_7 : decode cX4_shorten 7 = .ok (.aload_n 0, 1) := by decide +kernel
theorem dX4_shorten_8 : decode cX4_shorten 8 = .ok (.getfield 21, 3) := by decide +kernel
theorem dX4_shorten_11 : decode cX4_shorten 11 = .ok (.iload_n 1, 1) := by decide +kernel
theorem dX4_shorten_12 : decode cX4_shorten 12 = .ok (.iaload, 1) := by decide +kernel
theorem dX4_shorten_13 : decode cX4_shorten 13 = .ok (.istore 4, 2) := by decide +kernel
theorem dX4_shorten_15 : decode cX4_shorten 15 = .ok (.aload_n 0, 1) := by decide +kernel
theorem dX4_shorten_16 : decode cX4_shorten 16 = .ok (.getfield 43, 3) := by decide +kernel
theorem dX4_shorten_19 : decode cX4_shorten 19 = .ok (.iload_n 3, 1) := by decide +kernel
theorem dX4_shorten_20 : decode cX4_shorten 20 = .ok (.iaload, 1) := by decide +kernel
theorem dX4_shorten_21 : decode cX4_shorten 21 = .ok (.iload_n 2, 1) := by decide +kernel
theorem dX4_shorten_22 : decode cX4_shorten 22 = .ok (.iadd, 1) := by decide +kernel
theorem dX4_shorten_23 : decode cX4_shorten 23 = .ok (.aload_n 0, 1) := by decide +kernel
theorem dX4_shorten_24 : decode cX4_shorten 24 = .ok (.getfield 43, 3) := by decide +kernel
theorem dX4_shorten_27 : decode cX4_shorten 27 = .ok (.iload 4, 2) := by decide +kernel
theorem dX4_shorten_29 : decode cX4_shorten 29 = .ok (.iaload, 1) := by decide +kernel
theorem dX4_shorten_30 : decode cX4_shorten 30 = .ok (.if_icmp .ge 20, 3) := by decide +kernel
theorem dX4_shorten_33 : decode cX4_shorten 33 = .ok (.aload_n 0, 1) := by decide +kernel
theorem dX4_shorten_34 : decode cX4_shorten 34 = .ok (.getfield 43, 3) := by decide +kernel
theorem dX4_shorten_37 : decode cX4_shorten 37 = .ok (.iload 4, 2) := by decide +kernel
theorem dX4_shorten_39 : decode cX4_shorten 39 = .ok (.aload_n 0, 1) := by decide +kernel
theorem dX4_shorten_40 : decode cX4_shorten 40 = .ok (.getfield 43, 3) := by decide +kernel
theorem dX4_shorten_43 : decode cX4_shorten 43 = .ok (.iload_n 3, 1) := by decide +kernel
theorem dX4_shorten_44 : decode cX4_shorten 44 = .ok (.iaload, 1) := by decide +kernel
theorem dX4_shorten_45 : decode cX4_shorten 45 = .ok (.iload_n 2, 1) := by decide +kernel
theorem dX4_shorten_46 : decode cX4_shorten 46 = .ok (.iadd, 1) := by decide +kernel
theorem dX4_shorten_47 : decode cX4_shorten 47 = .ok (.iastore, 1) := by decide +kernel
theorem dX4_shorten_48 : decode cX4_shorten 48 = .ok (.iconst 1, 1) := by decide +kernel
theorem dX4_shorten_49 : decode cX4_shorten 49 = .ok (.ireturn, 1) := by decide +kernel
theorem dX4_shorten_50 : decode cX4_shorten 50 = .ok (.aload_n 0, 1) := by decide +kernel
theorem dX4_shorten_51 : decode cX4_shorten 51 = .ok (.getfield 43, 3) := by decide +kernel
theorem dX4_shorten_54 : decode cX4_shorten 54 = .ok (.iload 4, 2) := by decide +kernel
theorem dX4_shorten_56 : decode cX4_shorten 56 = .ok (.iaload, 1) := by decide +kernel
theorem dX4_shorten_57 : decode cX4_shorten 57 = .ok (.iload_n 2, 1) := by decide +kernel
theorem dX4_shorten_58 : decode cX4_shorten 58 = .ok (.iadd, 1) := by decide +kernel
theorem dX4_shorten_59 : decode cX4_shorten 59 = .ok (.aload_n 0, 1) := by decide +kernel
theorem dX4_shorten_60 : decode cX4_shorten 60 = .ok (.getfield 43, 3) := by decide +kernel
theorem dX4_shorten_63 : decode cX4_shorten 63 = .ok (.iload_n 3, 1) := by decide +kernel
theorem dX4_shorten_64 : decode cX4_shorten 64 = .ok (.iaload, 1) := by decide +kernel
theorem dX4_shorten_65 : decode cX4_shorten 65 = .ok (.if_icmp .ge 20, 3) := by decide +kernel
theorem dX4_shorten_68 : decode cX4_shorten 68 = .ok (.aload_n 0, 1) := by decide +kernel
theorem dX4_shorten_69 : decode cX4_shorten 69 = .ok (.getfield 43, 3) := by decide +kernel
theorem dX4_shorten_72 : decode cX4_shorten 72 = .ok (.iload_n 3, 1) := by decide +kernel
theorem dX4_shorten_73 : decode cX4_shorten 73 = .ok (.aload_n 0, 1) := by decide +kernel
theorem dX4_shorten_74 : decode cX4_shorten 74 = .ok (.getfield 43, 3) := by decide +kernel
theorem dX4_shorten_77 : decode cX4_shorten 77 = .ok (.iload 4, 2) := by decide +kernel
theorem dX4_shorten_79 : decode cX4_shorten 79 = .ok (.iaload, 1) := by decide +kernel
theorem dX4_shorten_80 : decode cX4_shorten 80 = .ok (.iload_n 2, 1) := by decide +kernel
theorem dX4_shorten_81 : decode cX4_shorten 81 = .ok (.iadd, 1) := by decide +kernel
theorem dX4_shorten_82 : decode cX4_shorten 82 = .ok (.iastore, 1) := by decide +kernel
theorem dX4_shorten_83 : decode cX4_shorten 83 = .ok (.iconst 1, 1) := by decide +kernel
theorem dX4_shorten_84 : decode cX4_shorten 84 = .ok (.ireturn, 1) := by decide +kernel
theorem dX4_shorten_85 : decode cX4_shorten 85 = .ok (.iconst 0, 1) := by decide +kernel
theorem dX4_shorten_86 : decode cX4_shorten 86 = .ok (.ireturn, 1) := by decide +kernel
theorem dX4_wireTowards_0 : decode cX4_wireTowards 0 = .ok (.aload_n 0, 1) := by decide +kernel
theorem dX4_wireTowards_1 : decode cX4_wireTowards 1 = .ok (.iload_n 2, 1) := by decide +kernel
theorem dX4_wireTowards_2 : decode cX4_wireTowards 2 = .ok (.iload_n 3, 1) := by decide +kernel
theorem dX4_wireTowards_3 : decode cX4_wireTowards 3 = .ok (.iload 4, 2) := by decide +kernel
theorem dX4_wireTowards_5 : decode cX4_wireTowards 5 = .ok (.invokevirtual 86, 3) := by decide +kernel
theorem dX4_wireTowards_8 : decode cX4_wireTowards 8 = .ok (.aload_n 0, 1) := by decide +kernel
theorem dX4_wireTowards_9 : decode cX4_wireTowards 9 = .ok (.getfield 43, 3) := by decide +kernel
theorem dX4_wireTowards_12 : decode cX4_wireTowards 12 = .ok (.iload_n 1, 1) := by decide +kernel
theorem dX4_wireTowards_13 : decode cX4_wireTowards 13 = .ok (.iaload, 1) := by decide +kernel
theorem dX4_wireTowards_14 : decode cX4_wireTowards 14 = .ok (.ldc 76, 2) := by decide +kernel
theorem dX4_wireTowards_16 : decode cX4_wireTowards 16 = .ok (.if_icmp .ne 5, 3) := by decide +kernel
theorem dX4_wireTowards_19 : decode cX4_wireTowards 19 = .ok (.iconst (-1), 1) := by decide +kernel
theorem dX4_wireTowards_20 : decode cX4_wireTowards 20 = .ok (.ireturn, 1) := by decide +kernel
theorem dX4_wireTowards_21 : decode cX4_wireTowards 21 = .ok (.iconst 0, 1) := by decide +kernel
theorem dX4_wireTowards_22 : decode cX4_wireTowards 22 = .ok (.istore 5, 2) := by decide +kernel
theorem dX4_wireTowards_24 : decode cX4_wireTowards 24 = .ok (.iload 5, 2) := by decide +kernel
theorem dX4_wireTowards_26 : decode cX4_wireTowards 26 = .ok (.aload_n 0, 1) := by decide +kernel
theorem dX4_wireTowards_27 : decode cX4_wireTowards 27 = .ok (.getfield 52, 3) := by decide +kernel
theorem dX4_wireTowards_30 : decode cX4_wireTowards 30 = .ok (.if_icmp .ge 61, 3) := by decide +kernel
theorem dX4_wireTowards_33 : decode cX4_wireTowards 33 = .ok (.aload_n 0, 1) := by decide +kernel
theorem dX4_wireTowards_34 : decode cX4_wireTowards 34 = .ok (.iload 5, 2) := by decide +kernel
theorem dX4_wireTowards_36 : decode cX4_wireTowards 36 = .ok (.iload_n 1, 1) := by decide +kernel
theorem dX4_wireTowards_37 : decode cX4_wireTowards 37 = .ok (.invokevirtual 56, 3) := by decide +kernel
theorem dX4_wireTowards_40 : decode cX4_wireTowards 40 = .ok (.istore 6, 2) := by decide +kernel
theorem dX4_wireTowards_42 : decode cX4_wireTowards 42 = .ok (.iload 6, 2) := by decide +kernel
theorem dX4_wireTowards_44 : decode cX4_wireTowards 44 = .ok (.iconst (-1), 1) := by decide +kernel
theorem dX4_wireTowards_45 : decode cX4_wireTowards 45 = .ok (.if_icmp .eq 40, 3) := by decide +kernel
theorem dX4_wireTowards_48 : decode cX4_wireTowards 48 = .ok (.iload 4, 2) := by decide +kernel
theorem dX4_wireTowards_50 : decode cX4_wireTowards 50 = .ok (.iload 5, 2) := by decide +kernel
theorem dX4_wireTowards_52 : decode cX4_wireTowards 52 = .ok (.invokestatic 77, 3) := by decide +kernel
theorem dX4_wireTowards_55 : decode cX4_wireTowards 55 = .ok (.ifCond .eq 30, 3) := by decide +kernel
theorem dX4_wireTowards_58 : decode cX4_wireTowards 58 = .ok (.aload_n 0, 1) := by decide +kernel
theorem dX4_wireTowards_59 : decode cX4_wireTowards 59 = .ok (.getfield 43, 3) := by decide +kernel
theorem dX4_wireTowards_62 : decode cX4_wireTowards 62 = .ok (.iload 6, 2) := by decide +kernel
theorem dX4_wireTowards_64 : decode cX4_wireTowards 64 = .ok (.iaload, 1) := by decide +kernel
theorem dX4_wireTowards_65 : decode cX4_wireTowards 65 = .ok (.aload_n 0, 1) := by decide +kernel
theorem dX4_wireTowards_66 : decode cX4_wireTowards 66 = .ok (.iload 5, 2) := by decide +kernel
theorem dX4_wireTowards_68 : decode cX4_wireTowards 68 = .ok (.iload_n 3, 1) := by decide +kernel
theorem dX4_wireTowards_69 : decode cX4_wireTowards 69 = .ok (.invokevirtual 80, 3) := by decide +kernel
theorem dX4_wireTowards_72 : decode cX4_wireTowards 72 = .ok (.iadd, 1) := by decide +kernel
theorem dX4_wireTowards_73 : decode cX4_wireTowards 73 = .ok (.aload_n 0, 1) := by decide +kernel
theorem dX4_wireTowards_74 : decode cX4_wireTowards 74 = .ok (.getfield 43, 3) := by decide +kernel
theorem dX4_wireTowards_77 : decode cX4_wireTowards 77 = .ok (.iload_n 1, 1) := by decide +kernel
theorem dX4_wireTowards_78 : decode cX4_wireTowards 78 = .ok (.iaload, 1) := by decide +kernel
theorem dX4_wireTowards_79 : decode cX4_wireTowards 79 = .ok (.if_icmp .ne 6, 3) := by decide +kernel
theorem dX4_wireTowards_82 : decode cX4_wireTowards 82 = .ok (.iload 5, 2) := by decide +kernel
theorem dX4_wireTowards_84 : decode cX4_wireTowards 84 = .ok (.ireturn, 1) := by decide +kernel
theorem dX4_wireTowards_85 : decode cX4_wireTowards 85 = .ok (.iinc 5 1, 3) := by decide +kernel
theorem dX4_wireTowards_88 : decode cX4_wireTowards 88 = .ok (.goto (-64), 3) := by decide +kernel
theorem dX4_wireTowards_91 : decode cX4_wireTowards 91 = .ok (.iconst (-1), 1) := by decide +kernel
theorem dX4_wireTowards_92 : decode cX4_wireTowards 92 = .ok (.ireturn, 1) := by decide +kernel
theorem dX4_aloneThere_0 : decode cX4_aloneThere 0 = .ok (.aload_n 0, 1) := by decide +kernel
theorem dX4_aloneThere_1 : decode cX4_aloneThere 1 = .ok (.getfield 43, 3) := by decide +kernel
theorem dX4_aloneThere_4 : decode cX4_aloneThere 4 = .ok (.ldc 76, 2) := by decide +kernel
theorem dX4_aloneThere_6 : decode cX4_aloneThere 6 = .ok (.invokestatic 46, 3) := by decide +kernel
theorem dX4_aloneThere_9 : decode cX4_aloneThere 9 = .ok (.aload_n 0, 1) := by decide +kernel
theorem dX4_aloneThere_10 : decode cX4_aloneThere 10 = .ok (.getfield 43, 3) := by decide +kernel
theorem dX4_aloneThere_13 : decode cX4_aloneThere 13 = .ok (.iload_n 1, 1) := by decide +kernel
theorem dX4_aloneThere_14 : decode cX4_aloneThere 14 = .ok (.iload 4, 2) := by decide +kernel
theorem dX4_aloneThere_16 : decode cX4_aloneThere 16 = .ok (.iastore, 1) := by decide +kernel
theorem dX4_aloneThere_17 : decode cX4_aloneThere 17 = .ok (.iconst 0, 1) := by decide +kernel
theorem dX4_aloneThere_18 : decode cX4_aloneThere 18 = .ok (.istore 6, 2) := by decide +kernel
theorem dX4_aloneThere_20 : decode cX4_aloneThere 20 = .ok (.iconst 0, 1) := by decide +kernel
theorem dX4_aloneThere_21 : decode cX4_aloneThere 21 = .ok (.istore 7, 2) := by decide +kernel
theorem dX4_aloneThere_23 : decode cX4_aloneThere 23 = .ok (.iload 7, 2) := by decide +kernel
theorem dX4_aloneThere_25 : decode cX4_aloneThere 25 = .ok (.bipush 8, 2) := by decide +kernel
theorem dX4_aloneThere_27 : decode cX4_aloneThere 27 = .ok (.if_icmp .ge 62, 3) := by decide +kernel
theorem dX4_aloneThere_30 : decode cX4_aloneThere 30 = .ok (.aload_n 0, 1) := by decide +kernel
theorem dX4_aloneThere_31 : decode cX4_aloneThere 31 = .ok (.iload 6, 2) := by decide +kernel
theorem dX4_aloneThere_33 : decode cX4_aloneThere 33 = .ok (.invokevirtual 90, 3) := by decide +kernel
theorem dX4_aloneThere_36 : decode cX4_aloneThere 36 = .ok (.istore 8, 2) := by decide +kernel
theorem dX4_aloneThere_38 : decode cX4_aloneThere 38 = .ok (.iload 8, 2) := by decide +kernel
theorem dX4_aloneThere_40 : decode cX4_aloneThere 40 = .ok (.iconst (-1), 1) := by decide +kernel
theorem dX4_aloneThere_41 : decode cX4_aloneThere 41 = .ok (.if_icmp .ne 5, 3) := by decide +kernel
theorem dX4_aloneThere_44 : decode cX4_aloneThere 44 = .ok (.iconst (-1), 1) := by decide +kernel
theorem dX4_aloneThere_45 : decode cX4_aloneThere 45 = .ok (.ireturn, 1) := by decide +kernel
theorem dX4_aloneThere_46 : decode cX4_aloneThere 46 = .ok (.iload 8, 2) := by decide +kernel
theorem dX4_aloneThere_48 : decode cX4_aloneThere 48 = .ok (.iload_n 2, 1) := by decide +kernel
theorem dX4_aloneThere_49 : decode cX4_aloneThere 49 = .ok (.if_icmp .ne 10, 3) := by decide +kernel
theorem dX4_aloneThere_52 : decode cX4_aloneThere 52 = .ok (.aload_n 0, 1) := by decide +kernel
theorem dX4_aloneThere_53 : decode cX4_aloneThere 53 = .ok (.getfield 43, 3) := by decide +kernel
theorem dX4_aloneThere_56 : decode cX4_aloneThere 56 = .ok (.iload_n 2, 1) := by decide +kernel
theorem dX4_aloneThere_57 : decode cX4_aloneThere 57 = .ok (.iaload, 1) := by decide +kernel
theorem dX4_aloneThere_58 : decode cX4_aloneThere 58 = .ok (.ireturn, 1) := by decide +kernel
theorem dX4_aloneThere_59 : decode cX4_aloneThere 59 = .ok (.iload 6, 2) := by decide +kernel
theorem dX4_aloneThere_61 : decode cX4_aloneThere 61 = .ok (.iconst 1, 1) := by decide +kernel
theorem dX4_aloneThere_62 : decode cX4_aloneThere 62 = .ok (.iload 8, 2) := by decide +kernel
theorem dX4_aloneThere_64 : decode cX4_aloneThere 64 = .ok (.ishl, 1) := by decide +kernel
theorem dX4_aloneThere_65 : decode cX4_aloneThere 65 = .ok (.ior, 1) := by decide +kernel
theorem dX4_aloneThere_66 : decode cX4_aloneThere 66 = .ok (.istore 6, 2) := by decide +kernel
theorem dX4_aloneThere_68 : decode cX4_aloneThere 68 = .ok (.aload_n 0, 1) := by decide +kernel
theorem dX4_aloneThere_69 : decode cX4_aloneThere 69 = .ok (.iload 8, 2) := by decide +kernel
theorem dX4_aloneThere_71 : decode cX4_aloneThere 71 = .ok (.iload_n 3, 1) := by decide +kernel
theorem dX4_aloneThere_72 : decode cX4_aloneThere 72 = .ok (.iload 4, 2) := by decide +kernel
theorem dX4_aloneThere_74 : decode cX4_aloneThere 74 = .ok (.sipush 3000, 3) := by decide +kernel
theorem dX4_aloneThere_77 : decode cX4_aloneThere 77 = .ok (.iadd, 1) := by decide +kernel
theorem dX4_aloneThere_78 : decode cX4_aloneThere 78 = .ok (.aload 5, 2) := by decide +kernel
theorem dX4_aloneThere_80 : decode cX4_aloneThere 80 = .ok (.invokevirtual 93, 3) := by decide +kernel
theorem dX4_aloneThere_83 : decode cX4_aloneThere 83 = .ok (.iinc 7 1, 3) := by decide +kernel
theorem dX4_aloneThere_86 : decode cX4_aloneThere 86 = .ok (.goto (-63), 3) := by decide +kernel
theorem dX4_aloneThere_89 : decode cX4_aloneThere 89 = .ok (.iconst (-1), 1) := by decide +kernel
theorem dX4_aloneThere_90 : decode cX4_aloneThere 90 = .ok (.ireturn, 1) := by decide +kernel
theorem dX4_soonestBut_0 : decode cX4_soonestBut 0 = .ok (.iconst (-1), 1) := by decide +kernel
theorem dX4_soonestBut_1 : decode cX4_soonestBut 1 = .ok (.istore_n 2, 1) := by decide +kernel
theorem dX4_soonestBut_2 : decode cX4_soonestBut 2 = .ok (.iconst 0, 1) := by decide +kernel
theorem dX4_soonestBut_3 : decode cX4_soonestBut 3 = .ok (.istore_n 3, 1) := by decide +kernel
theorem dX4_soonestBut_4 : decode cX4_soonestBut 4 = .ok (.iload_n 3, 1) := by decide +kernel
theorem dX4_soonestBut_5 : decode cX4_soonestBut 5 = .ok (.bipush 8, 2) := by decide +kernel
theorem dX4_soonestBut_7 : decode cX4_soonestBut 7 = .ok (.if_icmp .ge 53, 3) := by decide +kernel
theorem dX4_soonestBut_10 : decode cX4_soonestBut 10 = .ok (.iload_n 1, 1) := by decide +kernel
theorem dX4_soonestBut_11 : decode cX4_soonestBut 11 = .ok (.iload_n 3, 1) := by decide +kernel
theorem dX4_soonestBut_12 : decode cX4_soonestBut 12 = .ok (.invokestatic 77, 3) := by decide +kernel
theorem dX4_soonestBut_15 : decode cX4_soonestBut 15 = .ok (.ifCond .ne 39, 3) := by decide +kernel
theorem dX4_soonestBut_18 : decode cX4_soonestBut 18 = .ok (.aload_n 0, 1) := by decide +kernel
theorem dX4_soonestBut_19 : decode cX4_soonestBut 19 = .ok (.getfield 43, 3) := by decide +kernel
theorem dX4_soonestBut_22 : decode cX4_soonestBut 22 = .ok (.iload_n 3, 1) := by decide +kernel
theorem dX4_soonestBut_23 : decode cX4_soonestBut 23 = .ok (.iaload, 1) := by decide +kernel
theorem dX4_soonestBut_24 : decode cX4_soonestBut 24 = .ok (.ldc 76, 2) := by decide +kernel
theorem dX4_soonestBut_26 : decode cX4_soonestBut 26 = .ok (.if_icmp .ne 6, 3) := by decide +kernel
theorem dX4_soonestBut_29 : decode cX4_soonestBut 29 = .ok (.goto 25, 3) := by decide +kernel
theorem dX4_soonestBut_32 : decode cX4_soonestBut 32 = .ok (.iload_n 2, 1) := by decide +kernel
theorem dX4_soonestBut_33 : decode cX4_soonestBut 33 = .ok (.iconst (-1), 1) := by decide +kernel
theorem dX4_soonestBut_34 : decode cX4_soonestBut 34 = .ok (.if_icmp .eq 18, 3) := by decide +kernel
theorem dX4_soonestBut_37 : decode cX4_soonestBut 37 = .ok (.aload_n 0, 1) := by decide +kernel
theorem dX4_soonestBut_38 : decode cX4_soonestBut 38 = .ok (.getfield 43, 3) := by decide +kernel
theorem dX4_soonestBut_41 : decode cX4_soonestBut 41 = .ok (.iload_n 3, 1) := by decide +kernel
theorem dX4_soonestBut_42 : decode cX4_soonestBut 42 = .ok (.iaload, 1) := by decide +kernel
theorem dX4_soonestBut_43 : decode cX4_soonestBut 43 = .ok (.aload_n 0, 1) := by decide +kernel
theorem dX4_soonestBut_44 : decode cX4_soonestBut 44 = .ok (.getfield 43, 3) := by decide +kernel
theorem dX4_soonestBut_47 : decode cX4_soonestBut 47 = .ok (.iload_n 2, 1) := by decide +kernel
theorem dX4_soonestBut_48 : decode cX4_soonestBut 48 = .ok (.iaload, 1) := by decide +kernel
theorem dX4_soonestBut_49 : decode cX4_soonestBut 49 = .ok (.if_icmp .ge 5, 3) := by decide +kernel
theorem dX4_soonestBut_52 : decode cX4_soonestBut 52 = .ok (.iload_n 3, 1) := by decide +kernel
theorem dX4_soonestBut_53 : decode cX4_soonestBut 53 = .ok (.istore_n 2, 1) := by decide +kernel
theorem dX4_soonestBut_54 : decode cX4_soonestBut 54 = .ok (.iinc 3 1, 3) := by decide +kernel
theorem dX4_soonestBut_57 : decode cX4_soonestBut 57 = .ok (.goto (-53), 3) := by decide +kernel
theorem dX4_soonestBut_60 : decode cX4_soonestBut 60 = .ok (.iload_n 2, 1) := by decide +kernel
theorem dX4_soonestBut_61 : decode cX4_soonestBut 61 = .ok (.ireturn, 1) := by decide +kernel
theorem dX4_goOnFrom_0 : decode cX4_goOnFrom 0 = .ok (.iconst 0, 1) := by decide +kernel
theorem dX4_goOnFrom_1 : decode cX4_goOnFrom 1 = .ok (.istore 5, 2) := by decide +kernel
theorem dX4_goOnFrom_3 : decode cX4_goOnFrom 3 = .ok (.iload 5, 2) := by decide +kernel
theorem dX4_goOnFrom_5 : decode cX4_goOnFrom 5 = .ok (.aload_n 0, 1) := by decide +kernel
theorem dX4_goOnFrom_6 : decode cX4_goOnFrom 6 = .ok (.getfield 52, 3) := by decide +kernel
theorem dX4_goOnFrom_9 : decode cX4_goOnFrom 9 = .ok (.if_icmp .ge 86, 3) := by decide +kernel
theorem dX4_goOnFrom_12 : decode cX4_goOnFrom 12 = .ok (.aload_n 0, 1) := by decide +kernel
theorem dX4_goOnFrom_13 : decode cX4_goOnFrom 13 = .ok (.iload 5, 2) := by decide +kernel
theorem dX4_goOnFrom_15 : decode cX4_goOnFrom 15 = .ok (.iload_n 1, 1) := by decide +kernel
theorem dX4_goOnFrom_16 : decode cX4_goOnFrom 16 = .ok (.invokevirtual 56, 3) := by decide +kernel
theorem dX4_goOnFrom_19 : decode cX4_goOnFrom 19 = .ok (.istore 6, 2) := by decide +kernel
theorem dX4_goOnFrom_21 : decode cX4_goOnFrom 21 = .ok (.iload 6, 2) := by decide +kernel
theorem dX4_goOnFrom_23 : decode cX4_goOnFrom 23 = .ok (.iconst (-1), 1) := by decide +kernel
theorem dX4_goOnFrom_24 : decode cX4_goOnFrom 24 = .ok (.if_icmp .ne 6, 3) := by decide +kernel
theorem dX4_goOnFrom_27 : decode cX4_goOnFrom 27 = .ok (.goto 62, 3) := by decide +kernel
theorem dX4_goOnFrom_30 : decode cX4_goOnFrom 30 = .ok (.aload_n 0, 1) := by decide +kernel
theorem dX4_goOnFrom_31 : decode cX4_goOnFrom 31 = .ok (.iload 5, 2) := by decide +kernel
theorem dX4_goOnFrom_33 : decode cX4_goOnFrom 33 = .ok (.iload_n 2, 1) := by decide +kernel
theorem dX4_goOnFrom_34 : decode cX4_goOnFrom 34 = .ok (.invokevirtual 80, 3) := by decide +kernel
theorem dX4_goOnFrom_37 : decode cX4_goOnFrom 37 = .ok (.istore 7, 2) := by decide +kernel
theorem dX4_goOnFrom_39 : decode cX4_goOnFrom 39 = .ok (.aload_n 0, 1) := by decide +kernel
theorem dX4_goOnFrom_40 : decode cX4_goOnFrom 40 = .ok (.iload 5, 2) := by decide +kernel
theorem dX4_goOnFrom_42 : decode cX4_goOnFrom 42 = .ok (.aload_n 0, 1) := by decide +kernel
theorem dX4_goOnFrom_43 : decode cX4_goOnFrom 43 = .ok (.getfield 43, 3) := by decide +kernel
theorem dX4_goOnFrom_46 : decode cX4_goOnFrom 46 = .ok (.iload_n 1, 1) := by decide +kernel
theorem dX4_goOnFrom_47 : decode cX4_goOnFrom 47 = .ok (.iaload, 1) := by decide +kernel
theorem dX4_goOnFrom_48 : decode cX4_goOnFrom 48 = .ok (.iload 7, 2) := by decide +kernel
theorem dX4_goOnFrom_50 : decode cX4_goOnFrom 50 = .ok (.iload_n 3, 1) := by decide +kernel
theorem dX4_goOnFrom_51 : decode cX4_goOnFrom 51 = .ok (.iload 7, 2) := by decide +kernel
theorem dX4_goOnFrom_53 : decode cX4_goOnFrom 53 = .ok (.isub, 1) := by decide +kernel
theorem dX4_goOnFrom_54 : decode cX4_goOnFrom 54 = .ok (.aload 4, 2) := by decide +kernel
theorem dX4_goOnFrom_56 : decode cX4_goOnFrom 56 = .ok (.invokevirtual 97, 3) := by decide +kernel
theorem dX4_goOnFrom_59 : decode cX4_goOnFrom 59 = .ok (.istore 8, 2) := by decide +kernel
theorem dX4_goOnFrom_61 : decode cX4_goOnFrom 61 = .ok (.iload 8, 2) := by decide +kernel
theorem dX4_goOnFrom_63 : decode cX4_goOnFrom 63 = .ok (.iconst (-1), 1) := by decide +kernel
theorem dX4_goOnFrom_64 : decode cX4_goOnFrom 64 = .ok (.if_icmp .eq 25, 3) := by decide +kernel
theorem dX4_goOnFrom_67 : decode cX4_goOnFrom 67 = .ok (.aload_n 0, 1) := by decide +kernel
theorem dX4_goOnFrom_68 : decode cX4_goOnFrom 68 = .ok (.getfield 43, 3) := by decide +kernel
theorem dX4_goOnFrom_71 : decode cX4_goOnFrom 71 = .ok (.iload 6, 2) := by decide +kernel
theorem dX4_goOnFrom_73 : decode cX4_goOnFrom 73 = .ok (.aload_n 0, 1) := by decide +kernel
theorem dX4_goOnFrom_74 : decode cX4_goOnFrom 74 = .ok (.getfield 43, 3) := by decide +kernel
theorem dX4_goOnFrom_77 : decode cX4_goOnFrom 77 = .ok (.iload 6, 2) := by decide +kernel
theorem dX4_goOnFrom_79 : decode cX4_goOnFrom 79 = .ok (.iaload, 1) := by decide +kernel
theorem dX4_goOnFrom_80 : decode cX4_goOnFrom 80 = .ok (.iload 8, 2) := by decide +kernel
theorem dX4_goOnFrom_82 : decode cX4_goOnFrom 82 = .ok (.iload 7, 2) := by decide +kernel
theorem dX4_goOnFrom_84 : decode cX4_goOnFrom 84 = .ok (.iadd, 1) := by decide +kernel
theorem dX4_goOnFrom_85 : decode cX4_goOnFrom 85 = .ok (.invokestatic 101, 3) := by decide +kernel
theorem dX4_goOnFrom_88 : decode cX4_goOnFrom 88 = .ok (.iastore, 1) := by decide +kernel
theorem dX4_goOnFrom_89 : decode cX4_goOnFrom 89 = .ok (.iinc 5 1, 3) := by decide +kernel
theorem dX4_goOnFrom_92 : decode cX4_goOnFrom 92 = .ok (.goto (-89), 3) := by decide +kernel
theorem dX4_goOnFrom_95 : decode cX4_goOnFrom 95 = .ok (.return_, 1) := by decide +kernel
theorem dX4_startFrom_0 : decode cX4_startFrom 0 = .ok (.iload_n 2, 1) := by decide +kernel
theorem dX4_startFrom_1 : decode cX4_startFrom 1 = .ok (.istore 6, 2) := by decide +kernel
theorem dX4_startFrom_3 : decode cX4_startFrom 3 = .ok (.iconst 0, 1) := by decide +kernel
theorem dX4_startFrom_4 : decode cX4_startFrom 4 = .ok (.istore 7, 2) := by decide +kernel
theorem dX4_startFrom_6 : decode cX4_startFrom 6 = .ok (.iload 7, 2) := by decide +kernel
theorem dX4_startFrom_8 : decode cX4_startFrom 8 = .ok (.sipush 3000, 3) := by decide +kernel
theorem dX4_startFrom_11 : decode cX4_startFrom 11 = .ok (.if_icmp .gt 42, 3) := by decide +kernel
theorem dX4_startFrom_14 : decode cX4_startFrom 14 = .ok (.iload 6, 2) := by decide +kernel
theorem dX4_startFrom_16 : decode cX4_startFrom 16 = .ok (.iload 4, 2) := by decide +kernel
theorem dX4_startFrom_18 : decode cX4_startFrom 18 = .ok (.if_icmp .gt 35, 3) := by decide +kernel
theorem dX4_startFrom_21 : decode cX4_startFrom 21 = .ok (.aload_n 0, 1) := by decide +kernel
theorem dX4_startFrom_22 : decode cX4_startFrom 22 = .ok (.iload_n 1, 1) := by decide +kernel
theorem dX4_startFrom_23 : decode cX4_startFrom 23 = .ok (.iload 6, 2) := by decide +kernel
theorem dX4_startFrom_25 : decode cX4_startFrom 25 = .ok (.iload_n 3, 1) := by decide +kernel
theorem dX4_startFrom_26 : decode cX4_startFrom 26 = .ok (.aload 5, 2) := by decide +kernel
theorem dX4_startFrom_28 : decode cX4_startFrom 28 = .ok (.invokevirtual 106, 3) := by decide +kernel
theorem dX4_startFrom_31 : decode cX4_startFrom 31 = .ok (.istore 8, 2) := by decide +kernel
theorem dX4_startFrom_33 : decode cX4_startFrom 33 = .ok (.iload 8, 2) := by decide +kernel
theorem dX4_startFrom_35 : decode cX4_startFrom 35 = .ok (.iload 6, 2) := by decide +kernel
theorem dX4_startFrom_37 : decode cX4_startFrom 37 = .ok (.if_icmp .ne 6, 3) := by decide +kernel
theorem dX4_startFrom_40 : decode cX4_startFrom 40 = .ok (.iload 6, 2) := by decide +kernel
theorem dX4_startFrom_42 : decode cX4_startFrom 42 = .ok (.ireturn, 1) := by decide +kernel
theorem dX4_startFrom_43 : decode cX4_startFrom 43 = .ok (.iload 8, 2) := by decide +kernel
theorem dX4_startFrom_45 : decode cX4_startFrom 45 = .ok (.istore 6, 2) := by decide +kernel
theorem dX4_startFrom_47 : decode cX4_startFrom 47 = .ok (.iinc 7 1, 3) := by decide +kernel
theorem dX4_startFrom_50 : decode cX4_startFrom 50 = .ok (.goto (-44), 3) := by decide +kernel
theorem dX4_startFrom_53 : decode cX4_startFrom 53 = .ok (.iconst (-1), 1) := by decide +kernel
theorem dX4_startFrom_54 : decode cX4_startFrom 54 = .ok (.ireturn, 1) := by decide +kernel
theorem dX4_notAhead_0 : decode cX4_notAhead 0 = .ok (.aload_n 0, 1) := by decide +kernel
theorem dX4_notAhead_1 : decode cX4_notAhead 1 = .ok (.aload_n 0, 1) := by decide +kernel
theorem dX4_notAhead_2 : decode cX4_notAhead 2 = .ok (.getfield 18, 3) := by decide +kernel
theorem dX4_notAhead_5 : decode cX4_notAhead 5 = .ok (.iload_n 1, 1) := by decide +kernel
theorem dX4_notAhead_6 : decode cX4_notAhead 6 = .ok (.iaload, 1) := by decide +kernel
theorem dX4_notAhead_7 : decode cX4_notAhead 7 = .ok (.iload_n 2, 1) := by decide +kernel
theorem dX4_notAhead_8 : decode cX4_notAhead 8 = .ok (.invokevirtual 110, 3) := by decide +kernel
theorem dX4_notAhead_11 : decode cX4_notAhead 11 = .ok (.aload_n 0, 1) := by decide +kernel
theorem dX4_notAhead_12 : decode cX4_notAhead 12 = .ok (.aload_n 0, 1) := by decide +kernel
theorem dX4_notAhead_13 : decode cX4_notAhead 13 = .ok (.getfield 21, 3) := by decide +kernel
theorem dX4_notAhead_16 : decode cX4_notAhead 16 = .ok (.iload_n 1, 1) := by decide +kernel
theorem dX4_notAhead_17 : decode cX4_notAhead 17 = .ok (.iaload, 1) := by decide +kernel
theorem dX4_notAhead_18 : decode cX4_notAhead 18 = .ok (.iload_n 2, 1) := by decide +kernel
theorem dX4_notAhead_19 : decode cX4_notAhead 19 = .ok (.invokevirtual 110, 3) := by decide +kernel
theorem dX4_notAhead_22 : decode cX4_notAhead 22 = .ok (.invokestatic 113, 3) := by decide +kernel
theorem dX4_notAhead_25 : decode cX4_notAhead 25 = .ok (.istore 5, 2) := by decide +kernel
theorem dX4_notAhead_27 : decode cX4_notAhead 27 = .ok (.iload 5, 2) := by decide +kernel
theorem dX4_notAhead_29 : decode cX4_notAhead 29 = .ok (.aload_n 0, 1) := by decide +kernel
theorem dX4_notAhead_30 : decode cX4_notAhead 30 = .ok (.getfield 36, 3) := by decide +kernel
theorem dX4_notAhead_33 : decode cX4_notAhead 33 = .ok (.iload_n 1, 1) := by decide +kernel
theorem dX4_notAhead_34 : decode cX4_notAhead 34 = .ok (.iload_n 2, 1) := by decide +kernel
theorem dX4_notAhead_35 : decode cX4_notAhead 35 = .ok (.iload_n 2, 1) := by decide +kernel
theorem dX4_notAhead_36 : decode cX4_notAhead 36 = .ok (.iload_n 3, 1) := by decide +kernel
theorem dX4_notAhead_37 : decode cX4_notAhead 37 = .ok (.iadd, 1) := by decide +kernel
theorem dX4_notAhead_38 : decode cX4_notAhead 38 = .ok (.invokevirtual 116, 3) := by decide +kernel
theorem dX4_notAhead_41 : decode cX4_notAhead 41 = .ok (.iconst 1, 1) := by decide +kernel
theorem dX4_notAhead_42 : decode cX4_notAhead 42 = .ok (.iadd, 1) := by decide +kernel
theorem dX4_notAhead_43 : decode cX4_notAhead 43 = .ok (.invokestatic 113, 3) := by decide +kernel
theorem dX4_notAhead_46 : decode cX4_notAhead 46 = .ok (.istore 5, 2) := by decide +kernel
theorem dX4_notAhead_48 : decode cX4_notAhead 48 = .ok (.iload 5, 2) := by decide +kernel
theorem dX4_notAhead_50 : decode cX4_notAhead 50 = .ok (.aload_n 0, 1) := by decide +kernel
theorem dX4_notAhead_51 : decode cX4_notAhead 51 = .ok (.getfield 40, 3) := by decide +kernel
theorem dX4_notAhead_54 : decode cX4_notAhead 54 = .ok (.iload_n 1, 1) := by decide +kernel
theorem dX4_notAhead_55 : decode cX4_notAhead 55 = .ok (.iload_n 2, 1) := by decide +kernel
theorem dX4_notAhead_56 : decode cX4_notAhead 56 = .ok (.iload_n 2, 1) := by decide +kernel
theorem dX4_notAhead_57 : decode cX4_notAhead 57 = .ok (.iload_n 3, 1) := by decide +kernel
theorem dX4_notAhead_58 : decode cX4_notAhead 58 = .ok (.iadd, 1) := by decide +kernel
theorem dX4_notAhead_59 : decode cX4_notAhead 59 = .ok (.invokevirtual 116, 3) := by decide +kernel
theorem dX4_notAhead_62 : decode cX4_notAhead 62 = .ok (.iconst 1, 1) := by decide +kernel
theorem dX4_notAhead_63 : decode cX4_notAhead 63 = .ok (.iadd, 1) := by decide +kernel
theorem dX4_notAhead_64 : decode cX4_notAhead 64 = .ok (.invokestatic 113, 3) := by decide +kernel
theorem dX4_notAhead_67 : decode cX4_notAhead 67 = .ok (.istore 5, 2) := by decide +kernel
theorem dX4_notAhead_69 : decode cX4_notAhead 69 = .ok (.aload 4, 2) := by decide +kernel
theorem dX4_notAhead_71 : decode cX4_notAhead 71 = .ok (.ifnull 31, 3) := by decide +kernel
theorem dX4_notAhead_74 : decode cX4_notAhead 74 = .ok (.aload 4, 2) := by decide +kernel
theorem dX4_notAhead_76 : decode cX4_notAhead 76 = .ok (.iload_n 2, 1) := by decide +kernel
theorem dX4_notAhead_77 : decode cX4_notAhead 77 = .ok (.invokestatic 120, 3) := by decide +kernel
theorem dX4_notAhead_80 : decode cX4_notAhead 80 = .ok (.invokevirtual 123, 3) := by decide +kernel
theorem dX4_notAhead_83 : decode cX4_notAhead 83 = .ok (.ifCond .ne 19, 3) := by decide +kernel
theorem dX4_notAhead_86 : decode cX4_notAhead 86 = .ok (.iload 5, 2) := by decide +kernel
theorem dX4_notAhead_88 : decode cX4_notAhead 88 = .ok (.iload_n 2, 1) := by decide +kernel
theorem dX4_notAhead_89 : decode cX4_notAhead 89 = .ok (.bipush 60, 2) := by decide +kernel
theorem dX4_notAhead_91 : decode cX4_notAhead 91 = .ok (.iadd, 1) := by decide +kernel
theorem dX4_notAhead_92 : decode cX4_notAhead 92 = .ok (.iload_n 2, 1) := by decide +kernel
theorem dX4_notAhead_93 : decode cX4_notAhead 93 = .ok (.bipush 60, 2) := by decide +kernel
theorem dX4_notAhead_95 : decode cX4_notAhead 95 = .ok (.irem, 1) := by decide +kernel
theorem dX4_notAhead_96 : decode cX4_notAhead 96 = .ok (.isub, 1) := by decide +kernel
theorem dX4_notAhead_97 : decode cX4_notAhead 97 = .ok (.invokestatic 113, 3) := by decide +kernel
theorem dX4_notAhead_100 : decode cX4_notAhead 100 = .ok (.istore 5, 2) := by decide +kernel
theorem dX4_notAhead_102 : decode cX4_notAhead 102 = .ok (.iload 5, 2) := by decide +kernel
theorem dX4_notAhead_104 : decode cX4_notAhead 104 = .ok (.ireturn, 1) := by decide +kernel
theorem dX4_opening_0 : decode cX4_opening 0 = .ok (.iload_n 2, 1) := by decide +kernel
theorem dX4_opening_1 : decode cX4_opening 1 = .ok (.sipush 1440, 3) := by decide +kernel
theorem dX4_opening_4 : decode cX4_opening 4 = .ok (.irem, 1) := by decide +kernel
theorem dX4_opening_5 : decode cX4_opening 5 = .ok (.istore_n 3, 1) := by decide +kernel
theorem dX4_opening_6 : decode cX4_opening 6 = .ok (.iload_n 3, 1) := by decide +kernel
theorem dX4_opening_7 : decode cX4_opening 7 = .ok (.aload_n 0, 1) := by decide +kernel
theorem dX4_opening_8 : decode cX4_opening 8 = .ok (.getfield 9, 3) := by decide +kernel
theorem dX4_opening_11 : decode cX4_opening 11 = .ok (.iload_n 1, 1) := by decide +kernel
theorem dX4_opening_12 : decode cX4_opening 12 = .ok (.iaload, 1) := by decide +kernel
theorem dX4_opening_13 : decode cX4_opening 13 = .ok (.if_icmp .ge 14, 3) := by decide +kernel
theorem dX4_opening_16 : decode cX4_opening 16 = .ok (.iload_n 2, 1) := by decide +kernel
theorem dX4_opening_17 : decode cX4_opening 17 = .ok (.aload_n 0, 1) := by decide +kernel
theorem dX4_opening_18 : decode cX4_opening 18 = .ok (.getfield 9, 3) := by decide +kernel
theorem dX4_opening_21 : decode cX4_opening 21 = .ok (.iload_n 1, 1) := by decide +kernel
theorem dX4_opening_22 : decode cX4_opening 22 = .ok (.iaload, 1) := by decide +kernel
theorem dX4_opening_23 : decode cX4_opening 23 = .ok (.iadd, 1) := by decide +kernel
theorem dX4_opening_24 : decode cX4_opening 24 = .ok (.iload_n 3, 1) := by decide +kernel
theorem dX4_opening_25 : decode cX4_opening 25 = .ok (.isub, 1) := by decide +kernel
theorem dX4_opening_26 : decode cX4_opening 26 = .ok (.ireturn, 1) := by decide +kernel
theorem dX4_opening_27 : decode cX4_opening 27 = .ok (.iload_n 3, 1) := by decide +kernel
theorem dX4_opening_28 : decode cX4_opening 28 = .ok (.aload_n 0, 1) := by decide +kernel
theorem dX4_opening_29 : decode cX4_opening 29 = .ok (.getfield 15, 3) := by decide +kernel
theorem dX4_opening_32 : decode cX4_opening 32 = .ok (.iload_n 1, 1) := by decide +kernel
theorem dX4_opening_33 : decode cX4_opening 33 = .ok (.iaload, 1) := by decide +kernel
theorem dX4_opening_34 : decode cX4_opening 34 = .ok (.if_icmp .gt 7, 3) := by decide +kernel
theorem dX4_opening_37 : decode cX4_opening 37 = .ok (.iload_n 2, 1) := by decide +kernel
theorem dX4_opening_38 : decode cX4_opening 38 = .ok (.goto 17, 3) := by decide +kernel
theorem dX4_opening_41 : decode cX4_opening 41 = .ok (.iload_n 2, 1) := by decide +kernel
theorem dX4_opening_42 : decode cX4_opening 42 = .ok (.sipush 1440, 3) := by decide +kernel
theorem dX4_opening_45 : decode cX4_opening 45 = .ok (.iadd, 1) := by decide +kernel
theorem dX4_opening_46 : decode cX4_opening 46 = .ok (.iload_n 3, 1) := by decide +kernel
theorem dX4_opening_47 : decode cX4_opening 47 = .ok (.isub, 1) := by decide +kernel
theorem dX4_opening_48 : decode cX4_opening 48 = .ok (.aload_n 0, 1) := by decide +kernel
theorem dX4_opening_49 : decode cX4_opening 49 = .ok (.getfield 9, 3) := by decide +kernel
theorem dX4_opening_52 : decode cX4_opening 52 = .ok (.iload_n 1, 1) := by decide +kernel
theorem dX4_opening_53 : decode cX4_opening 53 = .ok (.iaload, 1) := by decide +kernel
theorem dX4_opening_54 : decode cX4_opening 54 = .ok (.iadd, 1) := by decide +kernel
theorem dX4_opening_55 : decode cX4_opening 55 = .ok (.ireturn, 1) := by decide +kernel
theorem dX5_init_0 : decode cX5_init 0 = .ok (.aload_n 0, 1) := by decide +kernel
theorem dX5_init_1 : decode cX5_init 1 = .ok (.invokespecial 3, 3) := by decide +kernel
theorem dX5_init_4 : decode cX5_init 4 = .ok (.aload_n 0, 1) := by decide +kernel
theorem dX5_init_5 : decode cX5_init 5 = .ok (.iconst 5, 1) := by decide +kernel
theorem dX5_init_6 : decode cX5_init 6 = .ok (.newarray .int, 2) := by decide +kernel
theorem dX5_init_8 : decode cX5_init 8 = .ok (.putfield 9, 3) := by decide +kernel
theorem dX5_init_11 : decode cX5_init 11 = .ok (.aload_n 0, 1) := by decide +kernel
theorem dX5_init_12 : decode cX5_init 12 = .ok (.iconst 5, 1) := by decide +kernel
theorem dX5_init_13 : decode cX5_init 13 = .ok (.newarray .int, 2) := by decide +kernel
theorem dX5_init_15 : decode cX5_init 15 = .ok (.putfield 15, 3) := by decide +kernel
theorem dX5_init_18 : decode cX5_init 18 = .ok (.aload_n 0, 1) := by decide +kernel
theorem dX5_init_19 : decode cX5_init 19 = .ok (.bipush 8, 2) := by decide +kernel
theorem dX5_init_21 : decode cX5_init 21 = .ok (.newarray .int, 2) := by decide +kernel
theorem dX5_init_23 : decode cX5_init 23 = .ok (.putfield 18, 3) := by decide +kernel
theorem dX5_init_26 : decode cX5_init 26 = .ok (.aload_n 0, 1) := by decide +kernel
theorem dX5_init_27 : decode cX5_init 27 = .ok (.invokevirtual 21, 3) := by decide +kernel
theorem dX5_init_30 : decode cX5_init 30 = .ok (.return_, 1) := by decide +kernel
theorem dX5_forget_0 : decode cX5_forget 0 = .ok (.getstatic 24, 3) := by decide +kernel
theorem dX5_forget_3 : decode cX5_forget 3 = .ok (.iconst 0, 1) := by decide +kernel
theorem dX5_forget_4 : decode cX5_forget 4 = .ok (.aload_n 0, 1) := by decide +kernel
theorem dX5_forget_5 : decode cX5_forget 5 = .ok (.getfield 9, 3) := by decide +kernel
theorem dX5_forget_8 : decode cX5_forget 8 = .ok (.iconst 0, 1) := by decide +kernel
theorem dX5_forget_9 : decode cX5_forget 9 = .ok (.iconst 5, 1) := by decide +kernel
theorem dX5_forget_10 : decode cX5_forget 10 = .ok (.invokestatic 27, 3) := by decide +kernel
theorem dX5_forget_13 : decode cX5_forget 13 = .ok (.aload_n 0, 1) := by decide +kernel
theorem dX5_forget_14 : decode cX5_forget 14 = .ok (.getfield 15, 3) := by decide +kernel
theorem dX5_forget_17 : decode cX5_forget 17 = .ok (.iconst 1, 1) := by decide +kernel
theorem dX5_forget_18 : decode cX5_forget 18 = .ok (.invokestatic 33, 3) := by decide +kernel
theorem dX5_forget_21 : decode cX5_forget 21 = .ok (.aload_n 0, 1) := by decide +kernel
theorem dX5_forget_22 : decode cX5_forget 22 = .ok (.getfield 18, 3) := by decide +kernel
theorem dX5_forget_25 : decode cX5_forget 25 = .ok (.iconst (-1), 1) := by decide +kernel
theorem dX5_forget_26 : decode cX5_forget 26 = .ok (.invokestatic 33, 3) := by decide +kernel
theorem dX5_forget_29 : decode cX5_forget 29 = .ok (.aload_n 0, 1) := by decide +kernel
theorem dX5_forget_30 : decode cX5_forget 30 = .ok (.iconst 0, 1) := by decide +kernel
theorem dX5_forget_31 : decode cX5_forget 31 = .ok (.putfield 39, 3) := by decide +kernel
theorem dX5_forget_34 : decode cX5_forget 34 = .ok (.aload_n 0, 1) := by decide +kernel
theorem dX5_forget_35 : decode cX5_forget 35 = .ok (.iconst 0, 1) := by decide +kernel
theorem dX5_forget_36 : decode cX5_forget 36 = .ok (.putfield 43, 3) := by decide +kernel
theorem dX5_forget_39 : decode cX5_forget 39 = .ok (.aload_n 0, 1) := by decide +kernel
theorem dX5_forget_40 : decode cX5_forget 40 = .ok (.iconst 0, 1) := by decide +kernel
theorem dX5_forget_41 : decode cX5_forget 41 = .ok (.putfield 46, 3) := by decide +kernel
theorem dX5_forget_44 : decode cX5_forget 44 = .ok (.aload_n 0, 1) := by decide +kernel
theorem dX5_forget_45 : decode cX5_forget 45 = .ok (.iconst 0, 1) := by decide +kernel
theorem dX5_forget_46 : decode cX5_forget 46 = .ok (.putfield 49, 3) := by decide +kernel
theorem dX5_forget_49 : decode cX5_forget 49 = .ok (.aload_n 0, 1) := by decide +kernel
theorem dX5_forget_50 : decode cX5_forget 50 = .ok (.bipush 23, 2) := by decide +kernel
theorem dX5_forget_52 : decode cX5_forget 52 = .ok (.putfield 52, 3) := by decide +kernel
theorem dX5_forget_55 : decode cX5_forget 55 = .ok (.return_, 1) := by decide +kernel
theorem dX5_isKnown_0 : decode cX5_isKnown 0 = .ok (.aload_n 0, 1) := by decide +kernel
theorem dX5_isKnown_1 : decode cX5_isKnown 1 = .ok (.getfield 18, 3) := by decide +kernel
theorem dX5_isKnown_4 : decode cX5_isKnown 4 = .ok (.iload_n 1, 1) := by decide +kernel
theorem dX5_isKnown_5 : decode cX5_isKnown 5 = .ok (.iaload, 1) := by decide +kernel
theorem dX5_isKnown_6 : decode cX5_isKnown 6 = .ok (.iconst (-1), 1) := by decide +kernel
theorem dX5_isKnown_7 : decode cX5_isKnown 7 = .ok (.if_icmp .eq 17, 3) := by decide +kernel
theorem dX5_isKnown_10 : decode cX5_isKnown 10 = .ok (.aload_n 0, 1) := by decide +kernel
theorem dX5_isKnown_11 : decode cX5_isKnown 11 = .ok (.getfield 18, 3) := by decide +kernel
theorem dX5_isKnown_14 : decode cX5_isKnown 14 = .ok (.iload_n 1, 1) := by decide +kernel
theorem dX5_isKnown_15 : decode cX5_isKnown 15 = .ok (.iaload, 1) := by decide +kernel
theorem dX5_isKnown_16 : decode cX5_isKnown 16 = .ok (.iload_n 2, 1) := by decide +kernel
theorem dX5_isKnown_17 : decode cX5_isKnown 17 = .ok (.if_icmp .gt 7, 3) := by decide +kernel
theorem dX5_isKnown_20 : decode cX5_isKnown 20 = .ok (.iconst 1, 1) := by decide +kernel
theorem dX5_isKnown_21 : decode cX5_isKnown 21 = .ok (.goto 4, 3) := by decide +kernel
theorem dX5_isKnown_24 : decode cX5_isKnown 24 = .ok (.iconst 0, 1) := by decide +kernel
theorem dX5_isKnown_25 : decode cX5_isKnown 25 = .ok (.ireturn, 1) := by decide +kernel
theorem dX5_isNight_0 : decode cX5_isNight 0 = .ok (.aload_n 0, 1) := by decide +kernel
theorem dX5_isNight_1 : decode cX5_isNight 1 = .ok (.getfield 52, 3) := by decide +kernel
theorem dX5_isNight_4 : decode cX5_isNight 4 = .ok (.aload_n 0, 1) := by decide +kernel
theorem dX5_isNight_5 : decode cX5_isNight 5 = .ok (.getfield 49, 3) := by decide +kernel
theorem dX5_isNight_8 : decode cX5_isNight 8 = .ok (.if_icmp .ge 25, 3) := by decide +kernel
theorem dX5_isNight_11 : decode cX5_isNight 11 = .ok (.iload_n 1, 1) := by decide +kernel
theorem dX5_isNight_12 : decode cX5_isNight 12 = .ok (.aload_n 0, 1) := by decide +kernel
theorem dX5_isNight_13 : decode cX5_isNight 13 = .ok (.getfield 49, 3) := by decide +kernel
theorem dX5_isNight_16 : decode cX5_isNight 16 = .ok (.if_icmp .ge 11, 3) := by decide +kernel
theorem dX5_isNight_19 : decode cX5_isNight 19 = .ok (.iload_n 1, 1) := by decide +kernel
theorem dX5_isNight_20 : decode cX5_isNight 20 = .ok (.aload_n 0, 1) := by decide +kernel
theorem dX5_isNight_21 : decode cX5_isNight 21 = .ok (.getfield 52, 3) := by decide +kernel
theorem dX5_isNight_24 : decode cX5_isNight 24 = .ok (.if_icmp .gt 7, 3) := by decide +kernel
theorem dX5_isNight_27 : decode cX5_isNight 27 = .ok (.iconst 1, 1) := by decide +kernel
theorem dX5_isNight_28 : decode cX5_isNight 28 = .ok (.goto 4, 3) := by decide +kernel
theorem dX5_isNight_31 : decode cX5_isNight 31 = .ok (.iconst 0, 1) := by decide +kernel
theorem dX5_isNight_32 : decode cX5_isNight 32 = .ok (.ireturn, 1) := by decide +kernel
theorem dX5_isNight_33 : decode cX5_isNight 33 = .ok (.iload_n 1, 1) := by decide +kernel
theorem dX5_isNight_34 : decode cX5_isNight 34 = .ok (.aload_n 0, 1) := by decide +kernel
theorem dX5_isNight_35 : decode cX5_isNight 35 = .ok (.getfield 49, 3) := by decide +kernel
theorem dX5_isNight_38 : decode cX5_isNight 38 = .ok (.aload_n 0, 1) := by decide +kernel
theorem dX5_isNight_39 : decode cX5_isNight 39 = .ok (.getfield 52, 3) := by decide +kernel
theorem dX5_isNight_42 : decode cX5_isNight 42 = .ok (.invokestatic 55, 3) := by decide +kernel
theorem dX5_isNight_45 : decode cX5_isNight 45 = .ok (.ireturn, 1) := by decide +kernel
theorem dX5_isSentTwice_0 : decode cX5_isSentTwice 0 = .ok (.iload_n 1, 1) := by decide +kernel
theorem dX5_isSentTwice_1 : decode cX5_isSentTwice 1 = .ok (.iconst 4, 1) := by decide +kernel
theorem dX5_isSentTwice_2 : decode cX5_isSentTwice 2 = .ok (.if_icmp .eq 14, 3) := by decide +kernel
theorem dX5_isSentTwice_5 : decode cX5_isSentTwice 5 = .ok (.aload_n 0, 1) := by decide +kernel
theorem dX5_isSentTwice_6 : decode cX5_isSentTwice 6 = .ok (.getfield 39, 3) := by decide +kernel
theorem dX5_isSentTwice_9 : decode cX5_isSentTwice 9 = .ok (.iload_n 1, 1) := by decide +kernel
theorem dX5_isSentTwice_10 : decode cX5_isSentTwice 10 = .ok (.invokestatic 59, 3) := by decide +kernel
theorem dX5_isSentTwice_13 : decode cX5_isSentTwice 13 = .ok (.ifCond .eq 7, 3) := by decide +kernel
theorem dX5_isSentTwice_16 : decode cX5_isSentTwice 16 = .ok (.iconst 1, 1) := by decide +kernel
theorem dX5_isSentTwice_17 : decode cX5_isSentTwice 17 = .ok (.goto 4, 3) := by decide +kernel
theorem dX5_isSentTwice_20 : decode cX5_isSentTwice 20 = .ok (.iconst 0, 1) := by decide +kernel
theorem dX5_isSentTwice_21 : decode cX5_isSentTwice 21 = .ok (.ireturn, 1) := by decide +kernel
theorem dX5_wordsSent_0 : decode cX5_wordsSent 0 = .ok (.aload_n 0, 1) := by decide +kernel
theorem dX5_wordsSent_1 : decode cX5_wordsSent 1 = .ok (.iload_n 2, 1) := by decide +kernel
theorem dX5_wordsSent_2 : decode cX5_wordsSent 2 = .ok (.invokevirtual 63, 3) := by decide +kernel
theorem dX5_wordsSent_5 : decode cX5_wordsSent 5 = .ok (.ifCond .eq 9, 3) := by decide +kernel
theorem dX5_wordsSent_8 : decode cX5_wordsSent 8 = .ok (.iconst 2, 1) := by decide +kernel
theorem dX5_wordsSent_9 : decode cX5_wordsSent 9 = .ok (.iload_n 1, 1) := by decide +kernel
theorem dX5_wordsSent_10 : decode cX5_wordsSent 10 = .ok (.imul, 1) := by decide +kernel
theorem dX5_wordsSent_11 : decode cX5_wordsSent 11 = .ok (.goto 4, 3) := by decide +kernel
theorem dX5_wordsSent_14 : decode cX5_wordsSent 14 = .ok (.iload_n 1, 1) := by decide +kernel
theorem dX5_wordsSent_15 : decode cX5_wordsSent 15 = .ok (.ireturn, 1) := by decide +kernel
theorem dX5_price_0 : decode cX5_price 0 = .ok (.iload_n 1, 1) := by decide +kernel
theorem dX5_price_1 : decode cX5_price 1 = .ok (.aload_n 0, 1) := by decide +kernel
theorem dX5_price_2 : decode cX5_price 2 = .ok (.getfield 15, 3) := by decide +kernel
theorem dX5_price_5 : decode cX5_price 5 = .ok (.iload_n 2, 1) := by decide +kernel
theorem dX5_price_6 : decode cX5_price 6 = .ok (.iaload, 1) := by decide +kernel
theorem dX5_price_7 : decode cX5_price 7 = .ok (.imul, 1) := by decide +kernel
theorem dX5_price_8 : decode cX5_price 8 = .ok (.aload_n 0, 1) := by decide +kernel
theorem dX5_price_9 : decode cX5_price 9 = .ok (.getfield 43, 3) := by decide +kernel
theorem dX5_price_12 : decode cX5_price 12 = .ok (.invokestatic 67, 3) := by decide +kernel
theorem dX5_price_15 : decode cX5_price 15 = .ok (.ireturn, 1) := by decide +kernel
theorem dX6_init_0 : decode cX6_init 0 = .ok (.aload_n 0, 1) := by decide +kernel
theorem dX6_init_1 : decode cX6_init 1 = .ok (.invokespecial 3, 3) := by decide +kernel
theorem dX6_init_4 : decode cX6_init 4 = .ok (.aload_n 0, 1) := by decide +kernel
theorem dX6_init_5 : decode cX6_init 5 = .ok (.bipush 24, 2) := by decide +kernel
theorem dX6_init_7 : decode cX6_init 7 = .ok (.anewarray 9, 3) := by decide +kernel
theorem dX6_init_10 : decode cX6_init 10 = .ok (.putfield 11, 3) := by decide +kernel
theorem dX6_init_13 : decode cX6_init 13 = .ok (.aload_n 0, 1) := by decide +kernel
theorem dX6_init_14 : decode cX6_init 14 = .ok (.bipush 24, 2) := by decide +kernel
theorem dX6_init_16 : decode cX6_init 16 = .ok (.anewarray 9, 3) := by decide +kernel
theorem dX6_init_19 : decode cX6_init 19 = .ok (.putfield 17, 3) := by decide +kernel
theorem dX6_init_22 : decode cX6_init 22 = .ok (.aload_n 0, 1) := by decide +kernel
theorem dX6_init_23 : decode cX6_init 23 = .ok (.aload_n 1, 1) := by decide +kernel
theorem dX6_init_24 : decode cX6_init 24 = .ok (.putfield 20, 3) := by decide +kernel
theorem dX6_init_27 : decode cX6_init 27 = .ok (.aload_n 0, 1) := by decide +kernel
theorem dX6_init_28 : decode cX6_init 28 = .ok (.aload_n 2, 1) := by decide +kernel
theorem dX6_init_29 : decode cX6_init 29 = .ok (.putfield 24, 3) := by decide +kernel
theorem dX6_init_32 : decode cX6_init 32 = .ok (.return_, 1) := by decide +kernel
theorem dX6_handIn_0 : decode cX6_handIn 0 = .ok (.new 9, 3) := by decide +kernel
theorem dX6_handIn_3 : decode cX6_handIn 3 = .ok (.dup, 1) := by decide +kernel
theorem dX6_handIn_4 : decode cX6_handIn 4 = .ok (.invokespecial 28, 3) := by decide +kernel
theorem dX6_handIn_7 : decode cX6_handIn 7 = .ok (.astore 5, 2) := by decide +kernel
theorem dX6_handIn_9 : decode cX6_handIn 9 = .ok (.aload 5, 2) := by decide +kernel
theorem dX6_handIn_11 : decode cX6_handIn 11 = .ok (.iload_n 2, 1) := by decide +kernel
theorem dX6_handIn_12 : decode cX6_handIn 12 = .ok (.putfield 29, 3) := by decide +kernel
theorem dX6_handIn_15 : decode cX6_handIn 15 = .ok (.aload 5, 2) := by decide +kernel
theorem dX6_handIn_17 : decode cX6_handIn 17 = .ok (.iload_n 3, 1) := by decide +kernel
theorem dX6_handIn_18 : decode cX6_handIn 18 = .ok (.putfield 33, 3) := by decide +kernel
theorem dX6_handIn_21 : decode cX6_handIn 21 = .ok (.aload 5, 2) := by decide +kernel
theorem dX6_handIn_23 : decode cX6_handIn 23 = .ok (.iload 4, 2) := by decide +kernel
theorem dX6_handIn_25 : decode cX6_handIn 25 = .ok (.putfield 36, 3) := by decide +kernel
theorem dX6_handIn_28 : decode cX6_handIn 28 = .ok (.aload 5, 2) := by decide +kernel
theorem dX6_handIn_30 : decode cX6_handIn 30 = .ok (.aload_n 0, 1) := by decide +kernel
theorem dX6_handIn_31 : decode cX6_handIn 31 = .ok (.getfield 39, 3) := by decide +kernel
theorem dX6_handIn_34 : decode cX6_handIn 34 = .ok (.putfield 42, 3) := by decide +kernel
theorem dX6_handIn_37 : decode cX6_handIn 37 = .ok (.aload 5, 2) := by decide +kernel
theorem dX6_handIn_39 : decode cX6_handIn 39 = .ok (.iload_n 1, 1) := by decide +kernel
theorem dX6_handIn_40 : decode cX6_handIn 40 = .ok (.putfield 45, 3) := by decide +kernel
theorem dX6_handIn_43 : decode cX6_handIn 43 = .ok (.aload 5, 2) := by decide +kernel
theorem dX6_handIn_45 : decode cX6_handIn 45 = .ok (.aload_n 0, 1) := by decide +kernel
theorem dX6_handIn_46 : decode cX6_handIn 46 = .ok (.getfield 24, 3) := by decide +kernel
theorem dX6_handIn_49 : decode cX6_handIn 49 = .ok (.iload_n 1, 1) := by decide +kernel
theorem dX6_handIn_50 : decode cX6_handIn 50 = .ok (.aload_n 0, 1) := by decide +kernel
theorem dX6_handIn_51 : decode cX6_handIn 51 = .ok (.getfield 39, 3) := by decide +kernel
theorem dX6_handIn_54 : decode cX6_handIn 54 = .ok (.invokevirtual 48, 3) := by decide +kernel
theorem dX6_handIn_57 : decode cX6_handIn 57 = .ok (.iload_n 3, 1) := by decide +kernel
theorem dX6_handIn_58 : decode cX6_handIn 58 = .ok (.iload 4, 2) := by decide +kernel
theorem dX6_handIn_60 : decode cX6_handIn 60 = .ok (.invokevirtual 54, 3) := by decide +kernel
theorem dX6_handIn_63 : decode cX6_handIn 63 = .ok (.putfield 60, 3) := by decide +kernel
theorem dX6_handIn_66 : decode cX6_handIn 66 = .ok (.aload_n 0, 1) := by decide +kernel
theorem dX6_handIn_67 : decode cX6_handIn 67 = .ok (.getfield 11, 3) := by decide +kernel
theorem dX6_handIn_70 : decode cX6_handIn 70 = .ok (.aload_n 0, 1) := by decide +kernel
theorem dX6_handIn_71 : decode cX6_handIn 71 = .ok (.getfield 62, 3) := by decide +kernel
theorem dX6_handIn_74 : decode cX6_handIn 74 = .ok (.aload 5, 2) := by decide +kernel
theorem dX6_handIn_76 : decode cX6_handIn 76 = .ok (.aastore, 1) := by decide +kernel
theorem dX6_handIn_77 : decode cX6_handIn 77 = .ok (.aload_n 0, 1) := by decide +kernel
theorem dX6_handIn_78 : decode cX6_handIn 78 = .ok (.getfield 17, 3) := by decide +kernel
theorem dX6_handIn_81 : decode cX6_handIn 81 = .ok (.aload_n 0, 1) := by decide +kernel
theorem dX6_handIn_82 : decode cX6_handIn 82 = .ok (.getfield 62, 3) := by decide +kernel
theorem dX6_handIn_85 : decode cX6_handIn 85 = .ok (.new 9, 3) := by decide +kernel
theorem dX6_handIn_88 : decode cX6_handIn 88 = .ok (.dup, 1) := by decide +kernel
theorem dX6_handIn_89 : decode cX6_handIn 89 = .ok (.invokespecial 28, 3) := by decide +kernel
theorem dX6_handIn_92 : decode cX6_handIn 92 = .ok (.aastore, 1) := by decide +kernel
theorem dX6_handIn_93 : decode cX6_handIn 93 = .ok (.aload_n 0, 1) := by decide +kernel
theorem dX6_handIn_94 : decode cX6_handIn 94 = .ok (.dup, 1) := by decide +kernel
theorem dX6_handIn_95 : decode cX6_handIn 95 = .ok (.getfield 62, 3) := by decide +kernel
theorem dX6_handIn_98 : decode cX6_handIn 98 = .ok (.iconst 1, 1) := by decide +kernel
theorem dX6_handIn_99 : decode cX6_handIn 99 = .ok (.iadd, 1) := by decide +kernel
theorem dX6_handIn_100 : decode cX6_handIn 100 = .ok (.putfield 62, 3) := by decide +kernel
theorem dX6_handIn_103 : decode cX6_handIn 103 = .ok (.aload_n 0, 1) := by decide +kernel
theorem dX6_handIn_104 : decode cX6_handIn 104 = .ok (.getfield 62, 3) := by decide +kernel
theorem dX6_handIn_107 : decode cX6_handIn 107 = .ok (.iconst 1, 1) := by decide +kernel
theorem dX6_handIn_108 : decode cX6_handIn 108 = .ok (.isub, 1) := by decide +kernel
theorem dX6_handIn_109 : decode cX6_handIn 109 = .ok (.ireturn, 1) := by decide +kernel
theorem dX6_pass_0 : decode cX6_pass 0 = .ok (.iconst 0, 1) := by decide +kernel
theorem dX6_pass_1 : decode cX6_pass 1 = .ok (.istore_n 3, 1) := by decide +kernel
theorem dX6_pass_2 : decode cX6_pass 2 = .ok (.iload_n 3, 1) := by decide +kernel
theorem dX6_pass_3 : decode cX6_pass 3 = .ok (.iload_n 1, 1) := by decide +kernel
theorem dX6_pass_4 : decode cX6_pass 4 = .ok (.if_icmp .ge 56, 3) := by decide +kernel
theorem dX6_pass_7 : decode cX6_pass 7 = .ok (.aload_n 0, 1) := by decide +kernel
theorem dX6_pass_8 : decode cX6_pass 8 = .ok (.getfield 20, 3) := by decide +kernel
theorem dX6_pass_11 : decode cX6_pass 11 = .ok (.aload_n 0, 1) := by decide +kernel
theorem dX6_pass_12 : decode cX6_pass 12 = .ok (.getfield 39, 3) := by decide +kernel
theorem dX6_pass_15 : decode cX6_pass 15 = .ok (.invokevirtual 65, 3) := by decide +kernel
theorem dX6_pass_18 : decode cX6_pass 18 = .ok (.iload_n 2, 1) := by decide +kernel
theorem dX6_pass_19 : decode cX6_pass 19 = .ok (.iconst (-1), 1) := by decide +kernel
theorem dX6_pass_20 : decode cX6_pass 20 = .ok (.ixor, 1) := by decide +kernel
theorem dX6_pass_21 : decode cX6_pass 21 = .ok (.iand, 1) := by decide +kernel
theorem dX6_pass_22 : decode cX6_pass 22 = .ok (.istore 4, 2) := by decide +kernel
theorem dX6_pass_24 : decode cX6_pass 24 = .ok (.aload_n 0, 1) := by decide +kernel
theorem dX6_pass_25 : decode cX6_pass 25 = .ok (.iload 4, 2) := by decide +kernel
theorem dX6_pass_27 : decode cX6_pass 27 = .ok (.invokevirtual 71, 3) := by decide +kernel
theorem dX6_pass_30 : decode cX6_pass 30 = .ok (.aload_n 0, 1) := by decide +kernel
theorem dX6_pass_31 : decode cX6_pass 31 = .ok (.invokevirtual 75, 3) := by decide +kernel
theorem dX6_pass_34 : decode cX6_pass 34 = .ok (.aload_n 0, 1) := by decide +kernel
theorem dX6_pass_35 : decode cX6_pass 35 = .ok (.aload_n 0, 1) := by decide +kernel
theorem dX6_pass_36 : decode cX6_pass 36 = .ok (.iload 4, 2) := by decide +kernel
theorem dX6_pass_38 : decode cX6_pass 38 = .ok (.invokevirtual 78, 3) := by decide +kernel
theorem dX6_pass_41 : decode cX6_pass 41 = .ok (.invokevirtual 81, 3) := by decide +kernel
theorem dX6_pass_44 : decode cX6_pass 44 = .ok (.aload_n 0, 1) := by decide +kernel
theorem dX6_pass_45 : decode cX6_pass 45 = .ok (.dup, 1) := by decide +kernel
theorem dX6_pass_46 : decode cX6_pass 46 = .ok (.getfield 39, 3) := by decide +kernel
theorem dX6_pass_49 : decode cX6_pass 49 = .ok (.iconst 1, 1) := by decide +kernel
theorem dX6_pass_50 : decode cX6_pass 50 = .ok (.iadd, 1) := by decide +kernel
theorem dX6_pass_51 : decode cX6_pass 51 = .ok (.putfield 39, 3) := by decide +kernel
theorem dX6_pass_54 : decode cX6_pass 54 = .ok (.iinc 3 1, 3) := by decide +kernel
theorem dX6_pass_57 : decode cX6_pass 57 = .ok (.goto (-55), 3) := by decide +kernel
theorem dX6_pass_60 : decode cX6_pass 60 = .ok (.return_, 1) := by decide +kernel
theorem dX6_keep_0 : decode cX6_keep 0 = .ok (.iconst 0, 1) := by decide +kernel
theorem dX6_keep_1 : decode cX6_keep 1 = .ok (.istore_n 1, 1) := by decide +kernel
theorem dX6_keep_2 : decode cX6_keep 2 = .ok (.iload_n 1, 1) := by decide +kernel
theorem dX6_keep_3 : decode cX6_keep 3 = .ok (.aload_n 0, 1) := by decide +kernel
theorem dX6_keep_4 : decode cX6_keep 4 = .ok (.getfield 62, 3) := by decide +kernel
theorem dX6_keep_7 : decode cX6_keep 7 = .ok (.if_icmp .ge 24, 3) := by decide +kernel
theorem dX6_keep_10 : decode cX6_keep 10 = .ok (.aload_n 0, 1) := by decide +kernel
theorem dX6_keep_11 : decode cX6_keep 11 = .ok (.getfield 17, 3) := by decide +kernel
theorem dX6_keep_14 : decode cX6_keep 14 = .ok (.iload_n 1, 1) := by decide +kernel
theorem dX6_keep_15 : decode cX6_keep 15 = .ok (.aaload, 1) := by decide +kernel
theorem dX6_keep_16 : decode cX6_keep 16 = .ok (.aload_n 0, 1) := by decide +kernel
theorem dX6_keep_17 : decode cX6_keep 17 = .ok (.getfield 11, 3) := by decide +kernel
theorem dX6_keep_20 : decode cX6_keep 20 = .ok (.iload_n 1, 1) := by decide +kernel
theorem dX6_keep_21 : decode cX6_keep 21 = .ok (.aaload, 1) := by decide +kernel
theorem dX6_keep_22 : decode cX6_keep 22 = .ok (.invokevirtual 84, 3) := by decide +kernel
theorem dX6_keep_25 : decode cX6_keep 25 = .ok (.iinc 1 1, 3) := by decide +kernel
theorem dX6_keep_28 : decode cX6_keep 28 = .ok (.goto (-26), 3) := by decide +kernel
theorem dX6_keep_31 : decode cX6_keep 31 = .ok (.return_, 1) := by decide +kernel
theorem dX6_restore_0 : decode cX6_restore 0 = .ok (.iconst 0, 1) := by decide +kernel
theorem dX6_restore_1 : decode cX6_restore 1 = .ok (.istore_n 2, 1) := by decide +kernel
theorem dX6_restore_2 : decode cX6_restore 2 = .ok (.iload_n 2, 1) := by decide +kernel
theorem dX6_restore_3 : decode cX6_restore 3 = .ok (.aload_n 0, 1) := by decide +kernel
theorem dX6_restore_4 : decode cX6_restore 4 = .ok (.getfield 62, 3) := by decide +kernel
theorem dX6_restore_7 : decode cX6_restore 7 = .ok (.if_icmp .ge 24, 3) := by decide +kernel
theorem dX6_restore_10 : decode cX6_restore 10 = .ok (.aload_n 0, 1) := by decide +kernel
theorem dX6_restore_11 : decode cX6_restore 11 = .ok (.getfield 11, 3) := by decide +kernel
theorem dX6_restore_14 : decode cX6_restore 14 = .ok (.iload_n 2, 1) := by decide +kernel
theorem dX6_restore_15 : decode cX6_restore 15 = .ok (.aaload, 1) := by decide +kernel
theorem dX6_restore_16 : decode cX6_restore 16 = .ok (.aload_n 0, 1) := by decide +kernel
theorem dX6_restore_17 : decode cX6_restore 17 = .ok (.getfield 17, 3) := by decide +kernel
theorem dX6_restore_20 : decode cX6_restore 20 = .ok (.iload_n 2, 1) := by decide +kernel
theorem dX6_restore_21 : decode cX6_restore 21 = .ok (.aaload, 1) := by decide +kernel
theorem dX6_restore_22 : decode cX6_restore 22 = .ok (.invokevirtual 84, 3) := by decide +kernel
theorem dX6_restore_25 : decode cX6_restore 25 = .ok (.iinc 2 1, 3) := by decide +kernel
theorem dX6_restore_28 : decode cX6_restore 28 = .ok (.goto (-26), 3) := by decide +kernel
theorem dX6_restore_31 : decode cX6_restore 31 = .ok (.aload_n 0, 1) := by decide +kernel
theorem dX6_restore_32 : decode cX6_restore 32 = .ok (.iload_n 1, 1) := by decide +kernel
theorem dX6_restore_33 : decode cX6_restore 33 = .ok (.putfield 39, 3) := by decide +kernel
theorem dX6_restore_36 : decode cX6_restore 36 = .ok (.return_, 1) := by decide +kernel
theorem dX6_endWires_0 : decode cX6_endWires 0 = .ok (.iconst 0, 1) := by decide +kernel
theorem dX6_endWires_1 : decode cX6_endWires 1 = .ok (.istore_n 2, 1) := by decide +kernel
theorem dX6_endWires_2 : decode cX6_endWires 2 = .ok (.iload_n 2, 1) := by decide +kernel
theorem dX6_endWires_3 : decode cX6_endWires 3 = .ok (.aload_n 0, 1) := by decide +kernel
theorem dX6_endWires_4 : decode cX6_endWires 4 = .ok (.getfield 62, 3) := by decide +kernel
theorem dX6_endWires_7 : decode cX6_endWires 7 = .ok (.if_icmp .ge 89, 3) := by decide +kernel
theorem dX6_endWires_10 : decode cX6_endWires 10 = .ok (.aload_n 0, 1) := by decide +kernel
theorem dX6_endWires_11 : decode cX6_endWires 11 = .ok (.getfield 11, 3) := by decide +kernel
theorem dX6_endWires_14 : decode cX6_endWires 14 = .ok (.iload_n 2, 1) := by decide +kernel
theorem dX6_endWires_15 : decode cX6_endWires 15 = .ok (.aaload, 1) := by decide +kernel
theorem dX6_endWires_16 : decode cX6_endWires 16 = .ok (.astore_n 3, 1) := by decide +kernel
theorem dX6_endWires_17 : decode cX6_endWires 17 = .ok (.aload_n 3, 1) := by decide +kernel
theorem dX6_endWires_18 : decode cX6_endWires 18 = .ok (.getfield 88, 3) := by decide +kernel
theorem dX6_endWires_21 : decode cX6_endWires 21 = .ok (.iconst 1, 1) := by decide +kernel
theorem dX6_endWires_22 : decode cX6_endWires 22 = .ok (.if_icmp .eq 6, 3) := by decide +kernel
theorem dX6_endWires_25 : decode cX6_endWires 25 = .ok (.goto 65, 3) := by decide +kernel
theorem dX6_endWires_28 : decode cX6_endWires 28 = .ok (.iload_n 1, 1) := by decide +kernel
theorem dX6_endWires_29 : decode cX6_endWires 29 = .ok (.aload_n 3, 1) := by decide +kernel
theorem dX6_endWires_30 : decode cX6_endWires 30 = .ok (.getfield 91, 3) := by decide +kernel
theorem dX6_endWires_33 : decode cX6_endWires 33 = .ok (.invokestatic 94, 3) := by decide +kernel
theorem dX6_endWires_36 : decode cX6_endWires 36 = .ok (.ifCond .ne 24, 3) := by decide +kernel
theorem dX6_endWires_39 : decode cX6_endWires 39 = .ok (.aload_n 3, 1) := by decide +kernel
theorem dX6_endWires_40 : decode cX6_endWires 40 = .ok (.dup, 1) := by decide +kernel
theorem dX6_endWires_41 : decode cX6_endWires 41 = .ok (.getfield 98, 3) := by decide +kernel
theorem dX6_endWires_44 : decode cX6_endWires 44 = .ok (.iconst 1, 1) := by decide +kernel
theorem dX6_endWires_45 : decode cX6_endWires 45 = .ok (.iadd, 1) := by decide +kernel
theorem dX6_endWires_46 : decode cX6_endWires 46 = .ok (.putfield 98, 3) := by decide +kernel
theorem dX6_endWires_49 : decode cX6_endWires 49 = .ok (.aload_n 3, 1) := by decide +kernel
theorem dX6_endWires_50 : decode cX6_endWires 50 = .ok (.aload_n 3, 1) := by decide +kernel
theorem dX6_endWires_51 : decode cX6_endWires 51 = .ok (.getfield 45, 3) := by decide +kernel
theorem dX6_endWires_54 : decode cX6_endWires 54 = .ok (.invokevirtual 101, 3) := by decide +kernel
theorem dX6_endWires_57 : decode cX6_endWires 57 = .ok (.goto 33, 3) := by decide +kernel
theorem dX6_endWires_60 : decode cX6_endWires 60 = .ok (.aload_n 3, 1) := by decide +kernel
theorem dX6_endWires_61 : decode cX6_endWires 61 = .ok (.getfield 104, 3) := by decide +kernel
theorem dX6_endWires_64 : decode cX6_endWires 64 = .ok (.aload_n 0, 1) := by decide +kernel
theorem dX6_endWires_65 : decode cX6_endWires 65 = .ok (.getfield 39, 3) := by decide +kernel
theorem dX6_endWires_68 : decode cX6_endWires 68 = .ok (.if_icmp .gt 22, 3) := by decide +kernel
theorem dX6_endWires_71 : decode cX6_endWires 71 = .ok (.aload_n 3, 1) := by decide +kernel
theorem dX6_endWires_72 : decode cX6_endWires 72 = .ok (.aload_n 0, 1) := by decide +kernel
theorem dX6_endWires_73 : decode cX6_endWires 73 = .ok (.getfield 20, 3) := by decide +kernel
theorem dX6_endWires_76 : decode cX6_endWires 76 = .ok (.aload_n 3, 1) := by decide +kernel
theorem dX6_endWires_77 : decode cX6_endWires 77 = .ok (.getfield 91, 3) := by decide +kernel
theorem dX6_endWires_80 : decode cX6_endWires 80 = .ok (.aload_n 3, 1) := by decide +kernel
theorem dX6_endWires_81 : decode cX6_endWires 81 = .ok (.getfield 45, 3) := by decide +kernel
theorem dX6_endWires_84 : decode cX6_endWires 84 = .ok (.invokevirtual 107, 3) := by decide +kernel
theorem dX6_endWires_87 : decode cX6_endWires 87 = .ok (.invokevirtual 101, 3) := by decide +kernel
theorem dX6_endWires_90 : decode cX6_endWires 90 = .ok (.iinc 2 1, 3) := by decide +kernel
theorem dX6_endWires_93 : decode cX6_endWires 93 = .ok (.goto (-91), 3) := by decide +kernel
theorem dX6_endWires_96 : decode cX6_endWires 96 = .ok (.return_, 1) := by decide +kernel
theorem dX6_giveWaiting_0 : decode cX6_giveWaiting 0 = .ok (.iconst 0, 1) := by decide +kernel
theorem dX6_giveWaiting_1 : decode cX6_giveWaiting 1 = .ok (.istore_n 1, 1) := by decide +kernel
theorem dX6_giveWaiting_2 : decode cX6_giveWaiting 2 = .ok (.iload_n 1, 1) := by decide +kernel
theorem dX6_giveWaiting_3 : decode cX6_giveWaiting 3 = .ok (.aload_n 0, 1) := by decide +kernel
theorem dX6_giveWaiting_4 : decode cX6_giveWaiting 4 = .ok (.getfield 62, 3) := by decide +kernel
theorem dX6_giveWaiting_7 : decode cX6_giveWaiting 7 = .ok (.if_icmp .ge 60, 3) := by decide +kernel
theorem dX6_giveWaiting_10 : decode cX6_giveWaiting 10 = .ok (.aload_n 0, 1) := by decide +kernel
theorem dX6_giveWaiting_11 : decode cX6_giveWaiting 11 = .ok (.getfield 11, 3) := by decide +kernel
theorem dX6_giveWaiting_14 : decode cX6_giveWaiting 14 = .ok (.iload_n 1, 1) := by decide +kernel
theorem dX6_giveWaiting_15 : decode cX6_giveWaiting 15 = .ok (.aaload, 1) := by decide +kernel
theorem dX6_giveWaiting_16 : decode cX6_giveWaiting 16 = .ok (.astore_n 2, 1) := by decide +kernel
theorem dX6_giveWaiting_17 : decode cX6_giveWaiting 17 = .ok (.aload_n 2, 1) := by decide +kernel
theorem dX6_giveWaiting_18 : decode cX6_giveWaiting 18 = .ok (.getfield 88, 3) := by decide +kernel
theorem dX6_giveWaiting_21 : decode cX6_giveWaiting 21 = .ok (.ifCond .ne 40, 3) := by decide +kernel
theorem dX6_giveWaiting_24 : decode cX6_giveWaiting 24 = .ok (.aload_n 2, 1) := by decide +kernel
theorem dX6_giveWaiting_25 : decode cX6_giveWaiting 25 = .ok (.getfield 45, 3) := by decide +kernel
theorem dX6_giveWaiting_28 : decode cX6_giveWaiting 28 = .ok (.aload_n 2, 1) := by decide +kernel
theorem dX6_giveWaiting_29 : decode cX6_giveWaiting 29 = .ok (.getfield 29, 3) := by decide +kernel
theorem dX6_giveWaiting_32 : decode cX6_giveWaiting 32 = .ok (.if_icmp .ne 29, 3) := by decide +kernel
theorem dX6_giveWaiting_35 : decode cX6_giveWaiting 35 = .ok (.aload_n 0, 1) := by decide +kernel
theorem dX6_giveWaiting_36 : decode cX6_giveWaiting 36 = .ok (.getfield 20, 3) := by decide +kernel
theorem dX6_giveWaiting_39 : decode cX6_giveWaiting 39 = .ok (.aload_n 2, 1) := by decide +kernel
theorem dX6_giveWaiting_40 : decode cX6_giveWaiting 40 = .ok (.getfield 29, 3) := by decide +kernel
theorem dX6_giveWaiting_43 : decode cX6_giveWaiting 43 = .ok (.aload_n 0, 1) := by decide +kernel
theorem dX6_giveWaiting_44 : decode cX6_giveWaiting 44 = .ok (.getfield 39, 3) := by decide +kernel
theorem dX6_giveWaiting_47 : decode cX6_giveWaiting 47 = .ok (.invokevirtual 110, 3) := by decide +kernel
theorem dX6_giveWaiting_50 : decode cX6_giveWaiting 50 = .ok (.ifCond .eq 11, 3) := by decide +kernel
theorem dX6_giveWaiting_53 : decode cX6_giveWaiting 53 = .ok (.aload_n 2, 1) := by decide +kernel
theorem dX6_giveWaiting_54 : decode cX6_giveWaiting 54 = .ok (.aload_n 0, 1) := by decide +kernel
theorem dX6_giveWaiting_55 : decode cX6_giveWaiting 55 = .ok (.getfield 39, 3) := by decide +kernel
theorem dX6_giveWaiting_58 : decode cX6_giveWaiting 58 = .ok (.invokevirtual 113, 3) := by decide +kernel
theorem dX6_giveWaiting_61 : decode cX6_giveWaiting 61 = .ok (.iinc 1 1, 3) := by decide +kernel
theorem dX6_giveWaiting_64 : decode cX6_giveWaiting 64 = .ok (.goto (-62), 3) := by decide +kernel
theorem dX6_giveWaiting_67 : decode cX6_giveWaiting 67 = .ok (.return_, 1) := by decide +kernel
theorem dX6_findNexts_0 : decode cX6_findNexts 0 = .ok (.iconst 0, 1) := by decide +kernel
theorem dX6_findNexts_1 : decode cX6_findNexts 1 = .ok (.istore_n 2, 1) := by decide +kernel
theorem dX6_findNexts_2 : decode cX6_findNexts 2 = .ok (.iconst 0, 1) := by decide +kernel
theorem dX6_findNexts_3 : decode cX6_findNexts 3 = .ok (.istore_n 3, 1) := by decide +kernel
theorem dX6_findNexts_4 : decode cX6_findNexts 4 = .ok (.iload_n 3, 1) := by decide +kernel
theorem dX6_findNexts_5 : decode cX6_findNexts 5 = .ok (.aload_n 0, 1) := by decide +kernel
theorem dX6_findNexts_6 : decode cX6_findNexts 6 = .ok (.getfield 62, 3) := by decide +kernel
theorem dX6_findNexts_9 : decode cX6_findNexts 9 = .ok (.if_icmp .ge 54, 3) := by decide +kernel
theorem dX6_findNexts_12 : decode cX6_findNexts 12 = .ok (.aload_n 0, 1) := by decide +kernel
theorem dX6_findNexts_13 : decode cX6_findNexts 13 = .ok (.getfield 11, 3) := by decide +kernel
theorem dX6_findNexts_16 : decode cX6_findNexts 16 = .ok (.iload_n 3, 1) := by decide +kernel
theorem dX6_findNexts_17 : decode cX6_findNexts 17 = .ok (.aaload, 1) := by decide +kernel
theorem dX6_findNexts_18 : decode cX6_findNexts 18 = .ok (.astore 4, 2) := by decide +kernel
theorem dX6_findNexts_20 : decode cX6_findNexts 20 = .ok (.aload 4, 2) := by decide +kernel
theorem dX6_findNexts_22 : decode cX6_findNexts 22 = .ok (.invokevirtual 116, 3) := by decide +kernel
theorem dX6_findNexts_25 : decode cX6_findNexts 25 = .ok (.ifCond .ne 6, 3) := by decide +kernel
theorem dX6_findNexts_28 : decode cX6_findNexts 28 = .ok (.goto 29, 3) := by decide +kernel
theorem dX6_findNexts_31 : decode cX6_findNexts 31 = .ok (.aload_n 0, 1) := by decide +kernel
theorem dX6_findNexts_32 : decode cX6_findNexts 32 = .ok (.aload 4, 2) := by decide +kernel
theorem dX6_findNexts_34 : decode cX6_findNexts 34 = .ok (.iload_n 1, 1) := by decide +kernel
theorem dX6_findNexts_35 : decode cX6_findNexts 35 = .ok (.invokevirtual 120, 3) := by decide +kernel
theorem dX6_findNexts_38 : decode cX6_findNexts 38 = .ok (.aload 4, 2) := by decide +kernel
theorem dX6_findNexts_40 : decode cX6_findNexts 40 = .ok (.getfield 124, 3) := by decide +kernel
theorem dX6_findNexts_43 : decode cX6_findNexts 43 = .ok (.iconst (-1), 1) := by decide +kernel
theorem dX6_findNexts_44 : decode cX6_findNexts 44 = .ok (.if_icmp .eq 13, 3) := by decide +kernel
theorem dX6_findNexts_47 : decode cX6_findNexts 47 = .ok (.iload_n 2, 1) := by decide +kernel
theorem dX6_findNexts_48 : decode cX6_findNexts 48 = .ok (.iconst 1, 1) := by decide +kernel
theorem dX6_findNexts_49 : decode cX6_findNexts 49 = .ok (.aload 4, 2) := by decide +kernel
theorem dX6_findNexts_51 : decode cX6_findNexts 51 = .ok (.getfield 124, 3) := by decide +kernel
theorem dX6_findNexts_54 : decode cX6_findNexts 54 = .ok (.ishl, 1) := by decide +kernel
theorem dX6_findNexts_55 : decode cX6_findNexts 55 = .ok (.ior, 1) := by decide +kernel
theorem dX6_findNexts_56 : decode cX6_findNexts 56 = .ok (.istore_n 2, 1) := by decide +kernel
theorem dX6_findNexts_57 : decode cX6_findNexts 57 = .ok (.iinc 3 1, 3) := by decide +kernel
theorem dX6_findNexts_60 : decode cX6_findNexts 60 = .ok (.goto (-56), 3) := by decide +kernel
theorem dX6_findNexts_63 : decode cX6_findNexts 63 = .ok (.iload_n 2, 1) := by decide +kernel
theorem dX6_findNexts_64 : decode cX6_findNexts 64 = .ok (.ireturn, 1) := by decide +kernel
theorem dX6_findNext_0 : decode cX6_findNext 0 = .ok (.aload_n 0, 1) := by decide +kernel
theorem dX6_findNext_1 : decode cX6_findNext 1 = .ok (.getfield 24, 3) := by decide +kernel
theorem dX6_findNext_4 : decode cX6_findNext 4 = .ok (.aload_n 1, 1) := by decide +kernel
theorem dX6_findNext_5 : decode cX6_findNext 5 = .ok (.getfield 45, 3) := by decide +kernel
theorem dX6_findNext_8 : decode cX6_findNext 8 = .ok (.aload_n 0, 1) := by decide +kernel
theorem dX6_findNext_9 : decode cX6_findNext 9 = .ok (.getfield 39, 3) := by decide +kernel
theorem dX6_findNext_12 : decode cX6_findNext 12 = .ok (.invokevirtual 48, 3) := by decide +kernel
theorem dX6_findNext_15 : decode cX6_findNext 15 = .ok (.aload_n 1, 1) := by decide +kernel
theorem dX6_findNext_16 : decode cX6_findNext 16 = .ok (.getfield 33, 3) := by decide +kernel
theorem dX6_findNext_19 : decode cX6_findNext 19 = .ok (.aload_n 1, 1) := by decide +kernel
theorem dX6_findNext_20 : decode cX6_findNext 20 = .ok (.getfield 36, 3) := by decide +kernel
theorem dX6_findNext_23 : decode cX6_findNext 23 = .ok (.invokevirtual 127, 3) := by decide +kernel
theorem dX6_findNext_26 : decode cX6_findNext 26 = .ok (.istore_n 3, 1) := by decide +kernel
theorem dX6_findNext_27 : decode cX6_findNext 27 = .ok (.aload_n 1, 1) := by decide +kernel
theorem dX6_findNext_28 : decode cX6_findNext 28 = .ok (.getfield 130, 3) := by decide +kernel
theorem dX6_findNext_31 : decode cX6_findNext 31 = .ok (.iload_n 2, 1) := by decide +kernel
theorem dX6_findNext_32 : decode cX6_findNext 32 = .ok (.if_icmp .ne 23, 3) := by decide +kernel
theorem dX6_findNext_35 : decode cX6_findNext 35 = .ok (.aload_n 1, 1) := by decide +kernel
theorem dX6_findNext_36 : decode cX6_findNext 36 = .ok (.getfield 133, 3) := by decide +kernel
theorem dX6_findNext_39 : decode cX6_findNext 39 = .ok (.aload_n 1, 1) := by decide +kernel
theorem dX6_findNext_40 : decode cX6_findNext 40 = .ok (.getfield 45, 3) := by decide +kernel
theorem dX6_findNext_43 : decode cX6_findNext 43 = .ok (.if_icmp .ne 12, 3) := by decide +kernel
theorem dX6_findNext_46 : decode cX6_findNext 46 = .ok (.aload_n 1, 1) := by decide +kernel
theorem dX6_findNext_47 : decode cX6_findNext 47 = .ok (.getfield 136, 3) := by decide +kernel
theorem dX6_findNext_50 : decode cX6_findNext 50 = .ok (.iload_n 3, 1) := by decide +kernel
theorem dX6_findNext_51 : decode cX6_findNext 51 = .ok (.if_icmp .ne 4, 3) := by decide +kernel
theorem dX6_findNext_54 : decode cX6_findNext 54 = .ok (.return_, 1) := by decide +kernel
theorem dX6_findNext_55 : decode cX6_findNext 55 = .ok (.aload_n 1, 1) := by decide +kernel
theorem dX6_findNext_56 : decode cX6_findNext 56 = .ok (.iload_n 2, 1) := by decide +kernel
theorem dX6_findNext_57 : decode cX6_findNext 57 = .ok (.putfield 130, 3) := by decide +kernel
theorem dX6_findNext_60 : decode cX6_findNext 60 = .ok (.aload_n 1, 1) := by decide +kernel
theorem dX6_findNext_61 : decode cX6_findNext 61 = .ok (.aload_n 1, 1) := by decide +kernel
theorem dX6_findNext_62 : decode cX6_findNext 62 = .ok (.getfield 45, 3) := by decide +kernel
theorem dX6_findNext_65 : decode cX6_findNext 65 = .ok (.putfield 133, 3) := by decide +kernel
theorem dX6_findNext_68 : decode cX6_findNext 68 = .ok (.aload_n 1, 1) := by decide +kernel
theorem dX6_findNext_69 : decode cX6_findNext 69 = .ok (.iload_n 3, 1) := by decide +kernel
theorem dX6_findNext_70 : decode cX6_findNext 70 = .ok (.putfield 136, 3) := by decide +kernel
theorem dX6_findNext_73 : decode cX6_findNext 73 = .ok (.aload_n 1, 1) := by decide +kernel
theorem dX6_findNext_74 : decode cX6_findNext 74 = .ok (.aload_n 0, 1) := by decide +kernel
theorem dX6_findNext_75 : decode cX6_findNext 75 = .ok (.getfield 20, 3) := by decide +kernel
theorem dX6_findNext_78 : decode cX6_findNext 78 = .ok (.aload_n 1, 1) := by decide +kernel
theorem dX6_findNext_79 : decode cX6_findNext 79 = .ok (.getfield 45, 3) := by decide +kernel
theorem dX6_findNext_82 : decode cX6_findNext 82 = .ok (.aload_n 1, 1) := by decide +kernel
theorem dX6_findNext_83 : decode cX6_findNext 83 = .ok (.getfield 29, 3) := by decide +kernel
theorem dX6_findNext_86 : decode cX6_findNext 86 = .ok (.iload_n 3, 1) := by decide +kernel
theorem dX6_findNext_87 : decode cX6_findNext 87 = .ok (.iload_n 2, 1) := by decide +kernel
theorem dX6_findNext_88 : decode cX6_findNext 88 = .ok (.invokevirtual 139, 3) := by decide +kernel
theorem dX6_findNext_91 : decode cX6_findNext 91 = .ok (.putfield 124, 3) := by decide +kernel
theorem dX6_findNext_94 : decode cX6_findNext 94 = .ok (.return_, 1) := by decide +kernel
theorem dX6_nextNow_0 : decode cX6_nextNow 0 = .ok (.aload_n 1, 1) := by decide +kernel
theorem dX6_nextNow_1 : decode cX6_nextNow 1 = .ok (.invokevirtual 116, 3) := by decide +kernel
theorem dX6_nextNow_4 : decode cX6_nextNow 4 = .ok (.ifCond .ne 5, 3) := by decide +kernel
theorem dX6_nextNow_7 : decode cX6_nextNow 7 = .ok (.iconst (-1), 1) := by decide +kernel
theorem dX6_nextNow_8 : decode cX6_nextNow 8 = .ok (.ireturn, 1) := by decide +kernel
theorem dX6_nextNow_9 : decode cX6_nextNow 9 = .ok (.aload_n 0, 1) := by decide +kernel
theorem dX6_nextNow_10 : decode cX6_nextNow 10 = .ok (.aload_n 1, 1) := by decide +kernel
theorem dX6_nextNow_11 : decode cX6_nextNow 11 = .ok (.aload_n 0, 1) := by decide +kernel
theorem dX6_nextNow_12 : decode cX6_nextNow 12 = .ok (.getfield 20, 3) := by decide +kernel
theorem dX6_nextNow_15 : decode cX6_nextNow 15 = .ok (.aload_n 0, 1) := by decide +kernel
theorem dX6_nextNow_16 : decode cX6_nextNow 16 = .ok (.getfield 39, 3) := by decide +kernel
theorem dX6_nextNow_19 : decode cX6_nextNow 19 = .ok (.invokevirtual 65, 3) := by decide +kernel
theorem dX6_nextNow_22 : decode cX6_nextNow 22 = .ok (.invokevirtual 120, 3) := by decide +kernel
theorem dX6_nextNow_25 : decode cX6_nextNow 25 = .ok (.aload_n 1, 1) := by decide +kernel
theorem dX6_nextNow_26 : decode cX6_nextNow 26 = .ok (.getfield 124, 3) := by decide +kernel
theorem dX6_nextNow_29 : decode cX6_nextNow 29 = .ok (.ireturn, 1) := by decide +kernel
theorem dX6_sendOn_0 : decode cX6_sendOn 0 = .ok (.iconst 0, 1) := by decide +kernel
theorem dX6_sendOn_1 : decode cX6_sendOn 1 = .ok (.istore_n 2, 1) := by decide +kernel
theorem dX6_sendOn_2 : decode cX6_sendOn 2 = .ok (.iload_n 2, 1) := by decide +kernel
theorem dX6_sendOn_3 : decode cX6_sendOn 3 = .ok (.aload_n 0, 1) := by decide +kernel
theorem dX6_sendOn_4 : decode cX6_sendOn 4 = .ok (.getfield 20, 3) := by decide +kernel
theorem dX6_sendOn_7 : decode cX6_sendOn 7 = .ok (.getfield 143, 3) := by decide +kernel
theorem dX6_sendOn_10 : decode cX6_sendOn 10 = .ok (.if_icmp .ge 60, 3) := by decide +kernel
theorem dX6_sendOn_13 : decode cX6_sendOn 13 = .ok (.iload_n 1, 1) := by decide +kernel
theorem dX6_sendOn_14 : decode cX6_sendOn 14 = .ok (.iload_n 2, 1) := by decide +kernel
theorem dX6_sendOn_15 : decode cX6_sendOn 15 = .ok (.invokestatic 94, 3) := by decide +kernel
theorem dX6_sendOn_18 : decode cX6_sendOn 18 = .ok (.ifCond .eq 46, 3) := by decide +kernel
theorem dX6_sendOn_21 : decode cX6_sendOn 21 = .ok (.aload_n 0, 1) := by decide +kernel
theorem dX6_sendOn_22 : decode cX6_sendOn 22 = .ok (.getfield 20, 3) := by decide +kernel
theorem dX6_sendOn_25 : decode cX6_sendOn 25 = .ok (.iload_n 2, 1) := by decide +kernel
theorem dX6_sendOn_26 : decode cX6_sendOn 26 = .ok (.aload_n 0, 1) := by decide +kernel
theorem dX6_sendOn_27 : decode cX6_sendOn 27 = .ok (.getfield 39, 3) := by decide +kernel
theorem dX6_sendOn_30 : decode cX6_sendOn 30 = .ok (.invokevirtual 146, 3) := by decide +kernel
theorem dX6_sendOn_33 : decode cX6_sendOn 33 = .ok (.ifCond .eq 31, 3) := by decide +kernel
theorem dX6_sendOn_36 : decode cX6_sendOn 36 = .ok (.aload_n 0, 1) := by decide +kernel
theorem dX6_sendOn_37 : decode cX6_sendOn 37 = .ok (.aload_n 0, 1) := by decide +kernel
theorem dX6_sendOn_38 : decode cX6_sendOn 38 = .ok (.getfield 20, 3) := by decide +kernel
theorem dX6_sendOn_41 : decode cX6_sendOn 41 = .ok (.getfield 149, 3) := by decide +kernel
theorem dX6_sendOn_44 : decode cX6_sendOn 44 = .ok (.iload_n 2, 1) := by decide +kernel
theorem dX6_sendOn_45 : decode cX6_sendOn 45 = .ok (.iaload, 1) := by decide +kernel
theorem dX6_sendOn_46 : decode cX6_sendOn 46 = .ok (.iload_n 2, 1) := by decide +kernel
theorem dX6_sendOn_47 : decode cX6_sendOn 47 = .ok (.invokevirtual 153, 3) := by decide +kernel
theorem dX6_sendOn_50 : decode cX6_sendOn 50 = .ok (.aload_n 0, 1) := by decide +kernel
theorem dX6_sendOn_51 : decode cX6_sendOn 51 = .ok (.aload_n 0, 1) := by decide +kernel
theorem dX6_sendOn_52 : decode cX6_sendOn 52 = .ok (.getfield 20, 3) := by decide +kernel
theorem dX6_sendOn_55 : decode cX6_sendOn 55 = .ok (.getfield 157, 3) := by decide +kernel
theorem dX6_sendOn_58 : decode cX6_sendOn 58 = .ok (.iload_n 2, 1) := by decide +kernel
theorem dX6_sendOn_59 : decode cX6_sendOn 59 = .ok (.iaload, 1) := by decide +kernel
theorem dX6_sendOn_60 : decode cX6_sendOn 60 = .ok (.iload_n 2, 1) := by decide +kernel
theorem dX6_sendOn_61 : decode cX6_sendOn 61 = .ok (.invokevirtual 153, 3) := by decide +kernel
theorem dX6_sendOn_64 : decode cX6_sendOn 64 = .ok (.iinc 2 1, 3) := by decide +kernel
theorem dX6_sendOn_67 : decode cX6_sendOn 67 = .ok (.goto (-65), 3) := by decide +kernel
theorem dX6_sendOn_70 : decode cX6_sendOn 70 = .ok (.return_, 1) := by decide +kernel
theorem dX6_sendFrom_0 : decode cX6_sendFrom 0 = .ok (.aload_n 0, 1) := by decide +kernel
theorem dX6_sendFrom_1 : decode cX6_sendFrom 1 = .ok (.iload_n 2, 1) := by decide +kernel
theorem dX6_sendFrom_2 : decode cX6_sendFrom 2 = .ok (.iload_n 1, 1) := by decide +kernel
theorem dX6_sendFrom_3 : decode cX6_sendFrom 3 = .ok (.invokevirtual 160, 3) := by decide +kernel
theorem dX6_sendFrom_6 : decode cX6_sendFrom 6 = .ok (.ifCond .eq 4, 3) := by decide +kernel
theorem dX6_sendFrom_9 : decode cX6_sendFrom 9 = .ok (.return_, 1) := by decide +kernel
theorem dX6_sendFrom_10 : decode cX6_sendFrom 10 = .ok (.aload_n 0, 1) := by decide +kernel
theorem dX6_sendFrom_11 : decode cX6_sendFrom 11 = .ok (.iload_n 1, 1) := by decide +kernel
theorem dX6_sendFrom_12 : decode cX6_sendFrom 12 = .ok (.iload_n 2, 1) := by decide +kernel
theorem dX6_sendFrom_13 : decode cX6_sendFrom 13 = .ok (.invokevirtual 163, 3) := by decide +kernel
theorem dX6_sendFrom_16 : decode cX6_sendFrom 16 = .ok (.istore_n 3, 1) := by decide +kernel
theorem dX6_sendFrom_17 : decode cX6_sendFrom 17 = .ok (.iload_n 3, 1) := by decide +kernel
theorem dX6_sendFrom_18 : decode cX6_sendFrom 18 = .ok (.iconst (-1), 1) := by decide +kernel
theorem dX6_sendFrom_19 : decode cX6_sendFrom 19 = .ok (.if_icmp .eq 35, 3) := by decide +kernel
theorem dX6_sendFrom_22 : decode cX6_sendFrom 22 = .ok (.aload_n 0, 1) := by decide +kernel
theorem dX6_sendFrom_23 : decode cX6_sendFrom 23 = .ok (.getfield 11, 3) := by decide +kernel
theorem dX6_sendFrom_26 : decode cX6_sendFrom 26 = .ok (.iload_n 3, 1) := by decide +kernel
theorem dX6_sendFrom_27 : decode cX6_sendFrom 27 = .ok (.aaload, 1) := by decide +kernel
theorem dX6_sendFrom_28 : decode cX6_sendFrom 28 = .ok (.astore 4, 2) := by decide +kernel
theorem dX6_sendFrom_30 : decode cX6_sendFrom 30 = .ok (.aload 4, 2) := by decide +kernel
theorem dX6_sendFrom_32 : decode cX6_sendFrom 32 = .ok (.iload_n 2, 1) := by decide +kernel
theorem dX6_sendFrom_33 : decode cX6_sendFrom 33 = .ok (.aload_n 0, 1) := by decide +kernel
theorem dX6_sendFrom_34 : decode cX6_sendFrom 34 = .ok (.getfield 39, 3) := by decide +kernel
theorem dX6_sendFrom_37 : decode cX6_sendFrom 37 = .ok (.aload_n 0, 1) := by decide +kernel
theorem dX6_sendFrom_38 : decode cX6_sendFrom 38 = .ok (.getfield 20, 3) := by decide +kernel
theorem dX6_sendFrom_41 : decode cX6_sendFrom 41 = .ok (.iload_n 2, 1) := by decide +kernel
theorem dX6_sendFrom_42 : decode cX6_sendFrom 42 = .ok (.aload 4, 2) := by decide +kernel
theorem dX6_sendFrom_44 : decode cX6_sendFrom 44 = .ok (.getfield 136, 3) := by decide +kernel
theorem dX6_sendFrom_47 : decode cX6_sendFrom 47 = .ok (.invokevirtual 166, 3) := by decide +kernel
theorem dX6_sendFrom_50 : decode cX6_sendFrom 50 = .ok (.iadd, 1) := by decide +kernel
theorem dX6_sendFrom_51 : decode cX6_sendFrom 51 = .ok (.invokevirtual 169, 3) := by decide +kernel
theorem dX6_sendFrom_54 : decode cX6_sendFrom 54 = .ok (.return_, 1) := by decide +kernel
theorem dX6_isTaken_0 : decode cX6_isTaken 0 = .ok (.iconst 0, 1) := by decide +kernel
theorem dX6_isTaken_1 : decode cX6_isTaken 1 = .ok (.istore_n 3, 1) := by decide +kernel
theorem dX6_isTaken_2 : decode cX6_isTaken 2 = .ok (.iload_n 3, 1) := by decide +kernel
theorem dX6_isTaken_3 : decode cX6_isTaken 3 = .ok (.aload_n 0, 1) := by decide +kernel
theorem dX6_isTaken_4 : decode cX6_isTaken 4 = .ok (.getfield 62, 3) := by decide +kernel
theorem dX6_isTaken_7 : decode cX6_isTaken 7 = .ok (.if_icmp .ge 58, 3) := by decide +kernel
theorem dX6_isTaken_10 : decode cX6_isTaken 10 = .ok (.aload_n 0, 1) := by decide +kernel
theorem dX6_isTaken_11 : decode cX6_isTaken 11 = .ok (.getfield 11, 3) := by decide +kernel
theorem dX6_isTaken_14 : decode cX6_isTaken 14 = .ok (.iload_n 3, 1) := by decide +kernel
theorem dX6_isTaken_15 : decode cX6_isTaken 15 = .ok (.aaload, 1) := by decide +kernel
theorem dX6_isTaken_16 : decode cX6_isTaken 16 = .ok (.astore 4, 2) := by decide +kernel
theorem dX6_isTaken_18 : decode cX6_isTaken 18 = .ok (.aload 4, 2) := by decide +kernel
theorem dX6_isTaken_20 : decode cX6_isTaken 20 = .ok (.getfield 88, 3) := by decide +kernel
theorem dX6_isTaken_23 : decode cX6_isTaken 23 = .ok (.iconst 1, 1) := by decide +kernel
theorem dX6_isTaken_24 : decode cX6_isTaken 24 = .ok (.if_icmp .ne 35, 3) := by decide +kernel
theorem dX6_isTaken_27 : decode cX6_isTaken 27 = .ok (.aload 4, 2) := by decide +kernel
theorem dX6_isTaken_29 : decode cX6_isTaken 29 = .ok (.getfield 91, 3) := by decide +kernel
theorem dX6_isTaken_32 : decode cX6_isTaken 32 = .ok (.iload_n 1, 1) := by decide +kernel
theorem dX6_isTaken_33 : decode cX6_isTaken 33 = .ok (.if_icmp .ne 26, 3) := by decide +kernel
theorem dX6_isTaken_36 : decode cX6_isTaken 36 = .ok (.aload 4, 2) := by decide +kernel
theorem dX6_isTaken_38 : decode cX6_isTaken 38 = .ok (.getfield 45, 3) := by decide +kernel
theorem dX6_isTaken_41 : decode cX6_isTaken 41 = .ok (.iload_n 2, 1) := by decide +kernel
theorem dX6_isTaken_42 : decode cX6_isTaken 42 = .ok (.if_icmp .eq 15, 3) := by decide +kernel
theorem dX6_isTaken_45 : decode cX6_isTaken 45 = .ok (.aload_n 0, 1) := by decide +kernel
theorem dX6_isTaken_46 : decode cX6_isTaken 46 = .ok (.getfield 20, 3) := by decide +kernel
theorem dX6_isTaken_49 : decode cX6_isTaken 49 = .ok (.getfield 172, 3) := by decide +kernel
theorem dX6_isTaken_52 : decode cX6_isTaken 52 = .ok (.iload_n 1, 1) := by decide +kernel
theorem dX6_isTaken_53 : decode cX6_isTaken 53 = .ok (.baload, 1) := by decide +kernel
theorem dX6_isTaken_54 : decode cX6_isTaken 54 = .ok (.ifCond .ne 5, 3) := by decide +kernel
theorem dX6_isTaken_57 : decode cX6_isTaken 57 = .ok (.iconst 1, 1) := by decide +kernel
theorem dX6_isTaken_58 : decode cX6_isTaken 58 = .ok (.ireturn, 1) := by decide +kernel
theorem dX6_isTaken_59 : decode cX6_isTaken 59 = .ok (.iinc 3 1, 3) := by decide +kernel
theorem dX6_isTaken_62 : decode cX6_isTaken 62 = .ok (.goto (-60), 3) := by decide +kernel
theorem dX6_isTaken_65 : decode cX6_isTaken 65 = .ok (.iconst 0, 1) := by decide +kernel
theorem dX6_isTaken_66 : decode cX6_isTaken 66 = .ok (.ireturn, 1) := by decide +kernel
theorem dX6_chosen_0 : decode cX6_chosen 0 = .ok (.aload_n 0, 1) := by decide +kernel
theorem dX6_chosen_1 : decode cX6_chosen 1 = .ok (.getfield 24, 3) := by decide +kernel
theorem dX6_chosen_4 : decode cX6_chosen 4 = .ok (.iload_n 1, 1) := by decide +kernel
theorem dX6_chosen_5 : decode cX6_chosen 5 = .ok (.aload_n 0, 1) := by decide +kernel
theorem dX6_chosen_6 : decode cX6_chosen 6 = .ok (.getfield 39, 3) := by decide +kernel
theorem dX6_chosen_9 : decode cX6_chosen 9 = .ok (.invokevirtual 48, 3) := by decide +kernel
theorem dX6_chosen_12 : decode cX6_chosen 12 = .ok (.astore_n 3, 1) := by decide +kernel
theorem dX6_chosen_13 : decode cX6_chosen 13 = .ok (.aload_n 3, 1) := by decide +kernel
theorem dX6_chosen_14 : decode cX6_chosen 14 = .ok (.aload_n 0, 1) := by decide +kernel
theorem dX6_chosen_15 : decode cX6_chosen 15 = .ok (.getfield 39, 3) := by decide +kernel
theorem dX6_chosen_18 : decode cX6_chosen 18 = .ok (.invokestatic 176, 3) := by decide +kernel
theorem dX6_chosen_21 : decode cX6_chosen 21 = .ok (.invokevirtual 179, 3) := by decide +kernel
theorem dX6_chosen_24 : decode cX6_chosen 24 = .ok (.istore 4, 2) := by decide +kernel
theorem dX6_chosen_26 : decode cX6_chosen 26 = .ok (.iconst (-1), 1) := by decide +kernel
theorem dX6_chosen_27 : decode cX6_chosen 27 = .ok (.istore 5, 2) := by decide +kernel
theorem dX6_chosen_29 : decode cX6_chosen 29 = .ok (.iconst 0, 1) := by decide +kernel
theorem dX6_chosen_30 : decode cX6_chosen 30 = .ok (.istore 6, 2) := by decide +kernel
theorem dX6_chosen_32 : decode cX6_chosen 32 = .ok (.iload 6, 2) := by decide +kernel
theorem dX6_chosen_34 : decode cX6_chosen 34 = .ok (.aload_n 0, 1) := by decide +kernel
theorem dX6_chosen_35 : decode cX6_chosen 35 = .ok (.getfield 62, 3) := by decide +kernel
theorem dX6_chosen_38 : decode cX6_chosen 38 = .ok (.if_icmp .ge 87, 3) := by decide +kernel
theorem dX6_chosen_41 : decode cX6_chosen 41 = .ok (.aload_n 0, 1) := by decide +kernel
theorem dX6_chosen_42 : decode cX6_chosen 42 = .ok (.getfield 11, 3) := by decide +kernel
theorem dX6_chosen_45 : decode cX6_chosen 45 = .ok (.iload 6, 2) := by decide +kernel
theorem dX6_chosen_47 : decode cX6_chosen 47 = .ok (.aaload, 1) := by decide +kernel
theorem dX6_chosen_48 : decode cX6_chosen 48 = .ok (.astore 7, 2) := by decide +kernel
theorem dX6_chosen_50 : decode cX6_chosen 50 = .ok (.aload 7, 2) := by decide +kernel
theorem dX6_chosen_52 : decode cX6_chosen 52 = .ok (.invokevirtual 116, 3) := by decide +kernel
theorem dX6_chosen_55 : decode cX6_chosen 55 = .ok (.ifCond .eq 64, 3) := by decide +kernel
theorem dX6_chosen_58 : decode cX6_chosen 58 = .ok (.aload 7, 2) := by decide +kernel
theorem dX6_chosen_60 : decode cX6_chosen 60 = .ok (.getfield 45, 3) := by decide +kernel
theorem dX6_chosen_63 : decode cX6_chosen 63 = .ok (.iload_n 1, 1) := by decide +kernel
theorem dX6_chosen_64 : decode cX6_chosen 64 = .ok (.if_icmp .ne 55, 3) := by decide +kernel
theorem dX6_chosen_67 : decode cX6_chosen 67 = .ok (.aload 7, 2) := by decide +kernel
theorem dX6_chosen_69 : decode cX6_chosen 69 = .ok (.getfield 124, 3) := by decide +kernel
theorem dX6_chosen_72 : decode cX6_chosen 72 = .ok (.iload_n 2, 1) := by decide +kernel
theorem dX6_chosen_73 : decode cX6_chosen 73 = .ok (.if_icmp .ne 46, 3) := by decide +kernel
theorem dX6_chosen_76 : decode cX6_chosen 76 = .ok (.aload 7, 2) := by decide +kernel
theorem dX6_chosen_78 : decode cX6_chosen 78 = .ok (.getfield 36, 3) := by decide +kernel
theorem dX6_chosen_81 : decode cX6_chosen 81 = .ok (.iconst 2, 1) := by decide +kernel
theorem dX6_chosen_82 : decode cX6_chosen 82 = .ok (.if_icmp .ne 11, 3) := by decide +kernel
theorem dX6_chosen_85 : decode cX6_chosen 85 = .ok (.iload 4, 2) := by decide +kernel
theorem dX6_chosen_87 : decode cX6_chosen 87 = .ok (.ifCond .ne 6, 3) := by decide +kernel
theorem dX6_chosen_90 : decode cX6_chosen 90 = .ok (.goto 29, 3) := by decide +kernel
theorem dX6_chosen_93 : decode cX6_chosen 93 = .ok (.iload 5, 2) := by decide +kernel
theorem dX6_chosen_95 : decode cX6_chosen 95 = .ok (.iconst (-1), 1) := by decide +kernel
theorem dX6_chosen_96 : decode cX6_chosen 96 = .ok (.if_icmp .eq 19, 3) := by decide +kernel
theorem dX6_chosen_99 : decode cX6_chosen 99 = .ok (.aload 7, 2) := by decide +kernel
theorem dX6_chosen_101 : decode cX6_chosen 101 = .ok (.aload_n 0, 1) := by decide +kernel
theorem dX6_chosen_102 : decode cX6_chosen 102 = .ok (.getfield 11, 3) := by decide +kernel
theorem dX6_chosen_105 : decode cX6_chosen 105 = .ok (.iload 5, 2) := by decide +kernel
theorem dX6_chosen_107 : decode cX6_chosen 107 = .ok (.aaload, 1) := by decide +kernel
theorem dX6_chosen_108 : decode cX6_chosen 108 = .ok (.aload_n 3, 1) := by decide +kernel
theorem dX6_chosen_109 : decode cX6_chosen 109 = .ok (.invokestatic 183, 3) := by decide +kernel
theorem dX6_chosen_112 : decode cX6_chosen 112 = .ok (.ifCond .eq 7, 3) := by decide +kernel
theorem dX6_chosen_115 : decode cX6_chosen 115 = .ok (.iload 6, 2) := by decide +kernel
theorem dX6_chosen_117 : decode cX6_chosen 117 = .ok (.istore 5, 2) := by decide +kernel
theorem dX6_chosen_119 : decode cX6_chosen 119 = .ok (.iinc 6 1, 3) := by decide +kernel
theorem dX6_chosen_122 : decode cX6_chosen 122 = .ok (.goto (-90), 3) := by decide +kernel
theorem dX6_chosen_125 : decode cX6_chosen 125 = .ok (.iload 5, 2) := by decide +kernel
theorem dX6_chosen_127 : decode cX6_chosen 127 = .ok (.ireturn, 1) := by decide +kernel
theorem dX6_goesAhead_0 : decode cX6_goesAhead 0 = .ok (.aload_n 2, 1) := by decide +kernel
theorem dX6_goesAhead_1 : decode cX6_goesAhead 1 = .ok (.getfield 187, 3) := by decide +kernel
theorem dX6_goesAhead_4 : decode cX6_goesAhead 4 = .ok (.aload_n 0, 1) := by decide +kernel
theorem dX6_goesAhead_5 : decode cX6_goesAhead 5 = .ok (.getfield 36, 3) := by decide +kernel
theorem dX6_goesAhead_8 : decode cX6_goesAhead 8 = .ok (.iaload, 1) := by decide +kernel
theorem dX6_goesAhead_9 : decode cX6_goesAhead 9 = .ok (.istore_n 3, 1) := by decide +kernel
theorem dX6_goesAhead_10 : decode cX6_goesAhead 10 = .ok (.aload_n 2, 1) := by decide +kernel
theorem dX6_goesAhead_11 : decode cX6_goesAhead 11 = .ok (.getfield 187, 3) := by decide +kernel
theorem dX6_goesAhead_14 : decode cX6_goesAhead 14 = .ok (.aload_n 1, 1) := by decide +kernel
theorem dX6_goesAhead_15 : decode cX6_goesAhead 15 = .ok (.getfield 36, 3) := by decide +kernel
theorem dX6_goesAhead_18 : decode cX6_goesAhead 18 = .ok (.iaload, 1) := by decide +kernel
theorem dX6_goesAhead_19 : decode cX6_goesAhead 19 = .ok (.istore 4, 2) := by decide +kernel
theorem dX6_goesAhead_21 : decode cX6_goesAhead 21 = .ok (.iload_n 3, 1) := by decide +kernel
theorem dX6_goesAhead_22 : decode cX6_goesAhead 22 = .ok (.iload 4, 2) := by decide +kernel
theorem dX6_goesAhead_24 : decode cX6_goesAhead 24 = .ok (.if_icmp .lt 20, 3) := by decide +kernel
theorem dX6_goesAhead_27 : decode cX6_goesAhead 27 = .ok (.iload_n 3, 1) := by decide +kernel
theorem dX6_goesAhead_28 : decode cX6_goesAhead 28 = .ok (.iload 4, 2) := by decide +kernel
theorem dX6_goesAhead_30 : decode cX6_goesAhead 30 = .ok (.if_icmp .ne 18, 3) := by decide +kernel
theorem dX6_goesAhead_33 : decode cX6_goesAhead 33 = .ok (.aload_n 0, 1) := by decide +kernel
theorem dX6_goesAhead_34 : decode cX6_goesAhead 34 = .ok (.getfield 42, 3) := by decide +kernel
theorem dX6_goesAhead_37 : decode cX6_goesAhead 37 = .ok (.aload_n 1, 1) := by decide +kernel
theorem dX6_goesAhead_38 : decode cX6_goesAhead 38 = .ok (.getfield 42, 3) := by decide +kernel
theorem dX6_goesAhead_41 : decode cX6_goesAhead 41 = .ok (.if_icmp .ge 7, 3) := by decide +kernel
theorem dX6_goesAhead_44 : decode cX6_goesAhead 44 = .ok (.iconst 1, 1) := by decide +kernel
theorem dX6_goesAhead_45 : decode cX6_goesAhead 45 = .ok (.goto 4, 3) := by decide +kernel
theorem dX6_goesAhead_48 : decode cX6_goesAhead 48 = .ok (.iconst 0, 1) := by decide +kernel
theorem dX6_goesAhead_49 : decode cX6_goesAhead 49 = .ok (.ireturn, 1) := by decide +kernel
theorem dX6_inPlace_0 : decode cX6_inPlace 0 = .ok (.iconst 0, 1) := by decide +kernel
theorem dX6_inPlace_1 : decode cX6_inPlace 1 = .ok (.istore_n 2, 1) := by decide +kernel
theorem dX6_inPlace_2 : decode cX6_inPlace 2 = .ok (.iconst 0, 1) := by decide +kernel
theorem dX6_inPlace_3 : decode cX6_inPlace 3 = .ok (.istore_n 3, 1) := by decide +kernel
theorem dX6_inPlace_4 : decode cX6_inPlace 4 = .ok (.iload_n 3, 1) := by decide +kernel
theorem dX6_inPlace_5 : decode cX6_inPlace 5 = .ok (.aload_n 0, 1) := by decide +kernel
theorem dX6_inPlace_6 : decode cX6_inPlace 6 = .ok (.getfield 62, 3) := by decide +kernel
theorem dX6_inPlace_9 : decode cX6_inPlace 9 = .ok (.if_icmp .ge 25, 3) := by decide +kernel
theorem dX6_inPlace_12 : decode cX6_inPlace 12 = .ok (.aload_n 0, 1) := by decide +kernel
theorem dX6_inPlace_13 : decode cX6_inPlace 13 = .ok (.getfield 11, 3) := by decide +kernel
theorem dX6_inPlace_16 : decode cX6_inPlace 16 = .ok (.iload_n 3, 1) := by decide +kernel
theorem dX6_inPlace_17 : decode cX6_inPlace 17 = .ok (.aaload, 1) := by decide +kernel
theorem dX6_inPlace_18 : decode cX6_inPlace 18 = .ok (.getfield 88, 3) := by decide +kernel
theorem dX6_inPlace_21 : decode cX6_inPlace 21 = .ok (.iload_n 1, 1) := by decide +kernel
theorem dX6_inPlace_22 : decode cX6_inPlace 22 = .ok (.if_icmp .ne 6, 3) := by decide +kernel
theorem dX6_inPlace_25 : decode cX6_inPlace 25 = .ok (.iinc 2 1, 3) := by decide +kernel
theorem dX6_inPlace_28 : decode cX6_inPlace 28 = .ok (.iinc 3 1, 3) := by decide +kernel
theorem dX6_inPlace_31 : decode cX6_inPlace 31 = .ok (.goto (-27), 3) := by decide +kernel
theorem dX6_inPlace_34 : decode cX6_inPlace 34 = .ok (.iload_n 2, 1) := by decide +kernel
theorem dX6_inPlace_35 : decode cX6_inPlace 35 = .ok (.ireturn, 1) := by decide +kernel
theorem dX6_prices_0 : decode cX6_prices 0 = .ok (.iconst 0, 1) := by decide +kernel
theorem dX6_prices_1 : decode cX6_prices 1 = .ok (.istore_n 1, 1) := by decide +kernel
theorem dX6_prices_2 : decode cX6_prices 2 = .ok (.iconst 0, 1) := by decide +kernel
theorem dX6_prices_3 : decode cX6_prices 3 = .ok (.istore_n 2, 1) := by decide +kernel
theorem dX6_prices_4 : decode cX6_prices 4 = .ok (.iload_n 2, 1) := by decide +kernel
theorem dX6_prices_5 : decode cX6_prices 5 = .ok (.aload_n 0, 1) := by decide +kernel
theorem dX6_prices_6 : decode cX6_prices 6 = .ok (.getfield 62, 3) := by decide +kernel
theorem dX6_prices_9 : decode cX6_prices 9 = .ok (.if_icmp .ge 21, 3) := by decide +kernel
theorem dX6_prices_12 : decode cX6_prices 12 = .ok (.iload_n 1, 1) := by decide +kernel
theorem dX6_prices_13 : decode cX6_prices 13 = .ok (.aload_n 0, 1) := by decide +kernel
theorem dX6_prices_14 : decode cX6_prices 14 = .ok (.getfield 11, 3) := by decide +kernel
theorem dX6_prices_17 : decode cX6_prices 17 = .ok (.iload_n 2, 1) := by decide +kernel
theorem dX6_prices_18 : decode cX6_prices 18 = .ok (.aaload, 1) := by decide +kernel
theorem dX6_prices_19 : decode cX6_prices 19 = .ok (.getfield 60, 3) := by decide +kernel
theorem dX6_prices_22 : decode cX6_prices 22 = .ok (.iadd, 1) := by decide +kernel
theorem dX6_prices_23 : decode cX6_prices 23 = .ok (.istore_n 1, 1) := by decide +kernel
theorem dX6_prices_24 : decode cX6_prices 24 = .ok (.iinc 2 1, 3) := by decide +kernel
theorem dX6_prices_27 : decode cX6_prices 27 = .ok (.goto (-23), 3) := by decide +kernel
theorem dX6_prices_30 : decode cX6_prices 30 = .ok (.iload_n 1, 1) := by decide +kernel
theorem dX6_prices_31 : decode cX6_prices 31 = .ok (.ireturn, 1) := by decide +kernel
theorem dX7_init_0 : decode cX7_init 0 = .ok (.aload_n 0, 1) := by decide +kernel
theorem dX7_init_1 : decode cX7_init 1 = .ok (.invokespecial 3, 3) := by decide +kernel
theorem dX7_init_4 : decode cX7_init 4 = .ok (.aload_n 0, 1) := by decide +kernel
theorem dX7_init_5 : decode cX7_init 5 = .ok (.bipush 72, 2) := by decide +kernel
theorem dX7_init_7 : decode cX7_init 7 = .ok (.newarray .int, 2) := by decide +kernel
theorem dX7_init_9 : decode cX7_init 9 = .ok (.putfield 9, 3) := by decide +kernel
theorem dX7_init_12 : decode cX7_init 12 = .ok (.aload_n 0, 1) := by decide +kernel
theorem dX7_init_13 : decode cX7_init 13 = .ok (.iconst 3, 1) := by decide +kernel
theorem dX7_init_14 : decode cX7_init 14 = .ok (.newarray .int, 2) := by decide +kernel
theorem dX7_init_16 : decode cX7_init 16 = .ok (.putfield 15, 3) := by decide +kernel
theorem dX7_init_19 : decode cX7_init 19 = .ok (.aload_n 0, 1) := by decide +kernel
theorem dX7_init_20 : decode cX7_init 20 = .ok (.bipush 10, 2) := by decide +kernel
theorem dX7_init_22 : decode cX7_init 22 = .ok (.putfield 18, 3) := by decide +kernel
theorem dX7_init_25 : decode cX7_init 25 = .ok (.return_, 1) := by decide +kernel
theorem dX7_changeRate_0 : decode cX7_changeRate 0 = .ok (.aload_n 0, 1) := by decide +kernel
theorem dX7_changeRate_1 : decode cX7_changeRate 1 = .ok (.getfield 18, 3) := by decide +kernel
theorem dX7_changeRate_4 : decode cX7_changeRate 4 = .ok (.istore_n 2, 1) := by decide +kernel
theorem dX7_changeRate_5 : decode cX7_changeRate 5 = .ok (.aload_n 0, 1) := by decide +kernel
theorem dX7_changeRate_6 : decode cX7_changeRate 6 = .ok (.iload_n 1, 1) := by decide +kernel
theorem dX7_changeRate_7 : decode cX7_changeRate 7 = .ok (.putfield 18, 3) := by decide +kernel
theorem dX7_changeRate_10 : decode cX7_changeRate 10 = .ok (.aload_n 0, 1) := by decide +kernel
theorem dX7_changeRate_11 : decode cX7_changeRate 11 = .ok (.iconst 0, 1) := by decide +kernel
theorem dX7_changeRate_12 : decode cX7_changeRate 12 = .ok (.putfield 22, 3) := by decide +kernel
theorem dX7_changeRate_15 : decode cX7_changeRate 15 = .ok (.iload_n 2, 1) := by decide +kernel
theorem dX7_changeRate_16 : decode cX7_changeRate 16 = .ok (.ireturn, 1) := by decide +kernel
theorem dX7_changeLimit_0 : decode cX7_changeLimit 0 = .ok (.aload_n 0, 1) := by decide +kernel
theorem dX7_changeLimit_1 : decode cX7_changeLimit 1 = .ok (.getfield 26, 3) := by decide +kernel
theorem dX7_changeLimit_4 : decode cX7_changeLimit 4 = .ok (.istore_n 2, 1) := by decide +kernel
theorem dX7_changeLimit_5 : decode cX7_changeLimit 5 = .ok (.aload_n 0, 1) := by decide +kernel
theorem dX7_changeLimit_6 : decode cX7_changeLimit 6 = .ok (.iload_n 1, 1) := by decide +kernel
theorem dX7_changeLimit_7 : decode cX7_changeLimit 7 = .ok (.putfield 26, 3) := by decide +kernel
theorem dX7_changeLimit_10 : decode cX7_changeLimit 10 = .ok (.aload_n 0, 1) := by decide +kernel
theorem dX7_changeLimit_11 : decode cX7_changeLimit 11 = .ok (.iconst 0, 1) := by decide +kernel
theorem dX7_changeLimit_12 : decode cX7_changeLimit 12 = .ok (.putfield 22, 3) := by decide +kernel
theorem dX7_changeLimit_15 : decode cX7_changeLimit 15 = .ok (.iload_n 2, 1) := by decide +kernel
theorem dX7_changeLimit_16 : decode cX7_changeLimit 16 = .ok (.ireturn, 1) := by decide +kernel
theorem dX7_mostWaiting_0 : decode cX7_mostWaiting 0 = .ok (.iconst 0, 1) := by decide +kernel
theorem dX7_mostWaiting_1 : decode cX7_mostWaiting 1 = .ok (.istore 4, 2) := by decide +kernel
theorem dX7_mostWaiting_3 : decode cX7_mostWaiting 3 = .ok (.iconst 0, 1) := by decide +kernel
theorem dX7_mostWaiting_4 : decode cX7_mostWaiting 4 = .ok (.istore 5, 2) := by decide +kernel
theorem dX7_mostWaiting_6 : decode cX7_mostWaiting 6 = .ok (.iload 5, 2) := by decide +kernel
theorem dX7_mostWaiting_8 : decode cX7_mostWaiting 8 = .ok (.iconst 3, 1) := by decide +kernel
theorem dX7_mostWaiting_9 : decode cX7_mostWaiting 9 = .ok (.if_icmp .ge 92, 3) := by decide +kernel
theorem dX7_mostWaiting_12 : decode cX7_mostWaiting 12 = .ok (.iconst 0, 1) := by decide +kernel
theorem dX7_mostWaiting_13 : decode cX7_mostWaiting 13 = .ok (.istore 6, 2) := by decide +kernel
theorem dX7_mostWaiting_15 : decode cX7_mostWaiting 15 = .ok (.iconst 0, 1) := by decide +kernel
theorem dX7_mostWaiting_16 : decode cX7_mostWaiting 16 = .ok (.istore 7, 2) := by decide +kernel
theorem dX7_mostWaiting_18 : decode cX7_mostWaiting 18 = .ok (.iload 7, 2) := by decide +kernel
theorem dX7_mostWaiting_20 : decode cX7_mostWaiting 20 = .ok (.bipush 24, 2) := by decide +kernel
theorem dX7_mostWaiting_22 : decode cX7_mostWaiting 22 = .ok (.if_icmp .ge 73, 3) := by decide +kernel
theorem dX7_mostWaiting_25 : decode cX7_mostWaiting 25 = .ok (.iload 7, 2) := by decide +kernel
theorem dX7_mostWaiting_27 : decode cX7_mostWaiting 27 = .ok (.bipush 8, 2) := by decide +kernel
theorem dX7_mostWaiting_29 : decode cX7_mostWaiting 29 = .ok (.if_icmp .ge 7, 3) := by decide +kernel
theorem dX7_mostWaiting_32 : decode cX7_mostWaiting 32 = .ok (.iload_n 1, 1) := by decide +kernel
theorem dX7_mostWaiting_33 : decode cX7_mostWaiting 33 = .ok (.goto 15, 3) := by decide +kernel
theorem dX7_mostWaiting_36 : decode cX7_mostWaiting 36 = .ok (.iload 7, 2) := by decide +kernel
theorem dX7_mostWaiting_38 : decode cX7_mostWaiting 38 = .ok (.bipush 16, 2) := by decide +kernel
theorem dX7_mostWaiting_40 : decode cX7_mostWaiting 40 = .ok (.if_icmp .ge 7, 3) := by decide +kernel
theorem dX7_mostWaiting_43 : decode cX7_mostWaiting 43 = .ok (.iload_n 2, 1) := by decide +kernel
theorem dX7_mostWaiting_44 : decode cX7_mostWaiting 44 = .ok (.goto 4, 3) := by decide +kernel
theorem dX7_mostWaiting_47 : decode cX7_mostWaiting 47 = .ok (.iload_n 3, 1) := by decide +kernel
theorem dX7_mostWaiting_48 : decode cX7_mostWaiting 48 = .ok (.istore 8, 2) := by decide +kernel
theorem dX7_mostWaiting_50 : decode cX7_mostWaiting 50 = .ok (.iconst 0, 1) := by decide +kernel
theorem dX7_mostWaiting_51 : decode cX7_mostWaiting 51 = .ok (.iload 6, 2) := by decide +kernel
theorem dX7_mostWaiting_53 : decode cX7_mostWaiting 53 = .ok (.aload_n 0, 1) := by decide +kernel
theorem dX7_mostWaiting_54 : decode cX7_mostWaiting 54 = .ok (.getfield 9, 3) := by decide +kernel
theorem dX7_mostWaiting_57 : decode cX7_mostWaiting 57 = .ok (.iload 5, 2) := by decide +kernel
theorem dX7_mostWaiting_59 : decode cX7_mostWaiting 59 = .ok (.bipush 24, 2) := by decide +kernel
theorem dX7_mostWaiting_61 : decode cX7_mostWaiting 61 = .ok (.imul, 1) := by decide +kernel
theorem dX7_mostWaiting_62 : decode cX7_mostWaiting 62 = .ok (.iload 7, 2) := by decide +kernel
theorem dX7_mostWaiting_64 : decode cX7_mostWaiting 64 = .ok (.iadd, 1) := by decide +kernel
theorem dX7_mostWaiting_65 : decode cX7_mostWaiting 65 = .ok (.iaload, 1) := by decide +kernel
theorem dX7_mostWaiting_66 : decode cX7_mostWaiting 66 = .ok (.iadd, 1) := by decide +kernel
theorem dX7_mostWaiting_67 : decode cX7_mostWaiting 67 = .ok (.iload 8, 2) := by decide +kernel
theorem dX7_mostWaiting_69 : decode cX7_mostWaiting 69 = .ok (.aload_n 0, 1) := by decide +kernel
theorem dX7_mostWaiting_70 : decode cX7_mostWaiting 70 = .ok (.getfield 18, 3) := by decide +kernel
theorem dX7_mostWaiting_73 : decode cX7_mostWaiting 73 = .ok (.imul, 1) := by decide +kernel
theorem dX7_mostWaiting_74 : decode cX7_mostWaiting 74 = .ok (.isub, 1) := by decide +kernel
theorem dX7_mostWaiting_75 : decode cX7_mostWaiting 75 = .ok (.invokestatic 29, 3) := by decide +kernel
theorem dX7_mostWaiting_78 : decode cX7_mostWaiting 78 = .ok (.istore 6, 2) := by decide +kernel
theorem dX7_mostWaiting_80 : decode cX7_mostWaiting 80 = .ok (.iload 4, 2) := by decide +kernel
theorem dX7_mostWaiting_82 : decode cX7_mostWaiting 82 = .ok (.iload 6, 2) := by decide +kernel
theorem dX7_mostWaiting_84 : decode cX7_mostWaiting 84 = .ok (.invokestatic 29, 3) := by decide +kernel
theorem dX7_mostWaiting_87 : decode cX7_mostWaiting 87 = .ok (.istore 4, 2) := by decide +kernel
theorem dX7_mostWaiting_89 : decode cX7_mostWaiting 89 = .ok (.iinc 7 1, 3) := by decide +kernel
theorem dX7_mostWaiting_92 : decode cX7_mostWaiting 92 = .ok (.goto (-74), 3) := by decide +kernel
theorem dX7_mostWaiting_95 : decode cX7_mostWaiting 95 = .ok (.iinc 5 1, 3) := by decide +kernel
theorem dX7_mostWaiting_98 : decode cX7_mostWaiting 98 = .ok (.goto (-92), 3) := by decide +kernel
theorem dX7_mostWaiting_101 : decode cX7_mostWaiting 101 = .ok (.iload 4, 2) := by decide +kernel
theorem dX7_mostWaiting_103 : decode cX7_mostWaiting 103 = .ok (.ireturn, 1) := by decide +kernel
theorem dX7_isEnough_0 : decode cX7_isEnough 0 = .ok (.aload_n 0, 1) := by decide +kernel
theorem dX7_isEnough_1 : decode cX7_isEnough 1 = .ok (.iload_n 1, 1) := by decide +kernel
theorem dX7_isEnough_2 : decode cX7_isEnough 2 = .ok (.iload_n 2, 1) := by decide +kernel
theorem dX7_isEnough_3 : decode cX7_isEnough 3 = .ok (.iload_n 3, 1) := by decide +kernel
theorem dX7_isEnough_4 : decode cX7_isEnough 4 = .ok (.invokevirtual 35, 3) := by decide +kernel
theorem dX7_isEnough_7 : decode cX7_isEnough 7 = .ok (.aload_n 0, 1) := by decide +kernel
theorem dX7_isEnough_8 : decode cX7_isEnough 8 = .ok (.getfield 26, 3) := by decide +kernel
theorem dX7_isEnough_11 : decode cX7_isEnough 11 = .ok (.if_icmp .gt 7, 3) := by decide +kernel
theorem dX7_isEnough_14 : decode cX7_isEnough 14 = .ok (.iconst 1, 1) := by decide +kernel
theorem dX7_isEnough_15 : decode cX7_isEnough 15 = .ok (.goto 4, 3) := by decide +kernel
theorem dX7_isEnough_18 : decode cX7_isEnough 18 = .ok (.iconst 0, 1) := by decide +kernel
theorem dX7_isEnough_19 : decode cX7_isEnough 19 = .ok (.ireturn, 1) := by decide +kernel
theorem dX7_plan_0 : decode cX7_plan 0 = .ok (.aload_n 0, 1) := by decide +kernel
theorem dX7_plan_1 : decode cX7_plan 1 = .ok (.getfield 22, 3) := by decide +kernel
theorem dX7_plan_4 : decode cX7_plan 4 = .ok (.ifCond .eq 4, 3) := by decide +kernel
theorem dX7_plan_7 : decode cX7_plan 7 = .ok (.return_, 1) := by decide +kernel
theorem dX7_plan_8 : decode cX7_plan 8 = .ok (.aload_n 0, 1) := by decide +kernel
theorem dX7_plan_9 : decode cX7_plan 9 = .ok (.iconst 1, 1) := by decide +kernel
theorem dX7_plan_10 : decode cX7_plan 10 = .ok (.putfield 22, 3) := by decide +kernel
theorem dX7_plan_13 : decode cX7_plan 13 = .ok (.aload_n 0, 1) := by decide +kernel
theorem dX7_plan_14 : decode cX7_plan 14 = .ok (.iconst (-1), 1) := by decide +kernel
theorem dX7_plan_15 : decode cX7_plan 15 = .ok (.putfield 39, 3) := by decide +kernel
theorem dX7_plan_18 : decode cX7_plan 18 = .ok (.aload_n 0, 1) := by decide +kernel
theorem dX7_plan_19 : decode cX7_plan 19 = .ok (.bipush 15, 2) := by decide +kernel
theorem dX7_plan_21 : decode cX7_plan 21 = .ok (.bipush 15, 2) := by decide +kernel
theorem dX7_plan_23 : decode cX7_plan 23 = .ok (.bipush 15, 2) := by decide +kernel
theorem dX7_plan_25 : decode cX7_plan 25 = .ok (.invokevirtual 42, 3) := by decide +kernel
theorem dX7_plan_28 : decode cX7_plan 28 = .ok (.ifCond .ne 4, 3) := by decide +kernel
theorem dX7_plan_31 : decode cX7_plan 31 = .ok (.return_, 1) := by decide +kernel
theorem dX7_plan_32 : decode cX7_plan 32 = .ok (.aload_n 0, 1) := by decide +kernel
theorem dX7_plan_33 : decode cX7_plan 33 = .ok (.invokevirtual 46, 3) := by decide +kernel
theorem dX7_plan_36 : decode cX7_plan 36 = .ok (.istore_n 1, 1) := by decide +kernel
theorem dX7_plan_37 : decode cX7_plan 37 = .ok (.aload_n 0, 1) := by decide +kernel
theorem dX7_plan_38 : decode cX7_plan 38 = .ok (.invokevirtual 50, 3) := by decide +kernel
theorem dX7_plan_41 : decode cX7_plan 41 = .ok (.istore_n 2, 1) := by decide +kernel
theorem dX7_plan_42 : decode cX7_plan 42 = .ok (.aload_n 0, 1) := by decide +kernel
theorem dX7_plan_43 : decode cX7_plan 43 = .ok (.bipush 46, 2) := by decide +kernel
theorem dX7_plan_45 : decode cX7_plan 45 = .ok (.putfield 39, 3) := by decide +kernel
theorem dX7_plan_48 : decode cX7_plan 48 = .ok (.iconst 0, 1) := by decide +kernel
theorem dX7_plan_49 : decode cX7_plan 49 = .ok (.istore_n 3, 1) := by decide +kernel
theorem dX7_plan_50 : decode cX7_plan 50 = .ok (.iload_n 3, 1) := by decide +kernel
theorem dX7_plan_51 : decode cX7_plan 51 = .ok (.bipush 15, 2) := by decide +kernel
theorem dX7_plan_53 : decode cX7_plan 53 = .ok (.if_icmp .gt 28, 3) := by decide +kernel
theorem dX7_plan_56 : decode cX7_plan 56 = .ok (.aload_n 0, 1) := by decide +kernel
theorem dX7_plan_57 : decode cX7_plan 57 = .ok (.iload_n 3, 1) := by decide +kernel
theorem dX7_plan_58 : decode cX7_plan 58 = .ok (.bipush 15, 2) := by decide +kernel
theorem dX7_plan_60 : decode cX7_plan 60 = .ok (.bipush 15, 2) := by decide +kernel
theorem dX7_plan_62 : decode cX7_plan 62 = .ok (.invokevirtual 42, 3) := by decide +kernel
theorem dX7_plan_65 : decode cX7_plan 65 = .ok (.ifCond .eq 10, 3) := by decide +kernel
theorem dX7_plan_68 : decode cX7_plan 68 = .ok (.aload_n 0, 1) := by decide +kernel
theorem dX7_plan_69 : decode cX7_plan 69 = .ok (.iload_n 3, 1) := by decide +kernel
theorem dX7_plan_70 : decode cX7_plan 70 = .ok (.iload_n 1, 1) := by decide +kernel
theorem dX7_plan_71 : decode cX7_plan 71 = .ok (.iload_n 2, 1) := by decide +kernel
theorem dX7_plan_72 : decode cX7_plan 72 = .ok (.invokevirtual 53, 3) := by decide +kernel
theorem dX7_plan_75 : decode cX7_plan 75 = .ok (.iinc 3 1, 3) := by decide +kernel
theorem dX7_plan_78 : decode cX7_plan 78 = .ok (.goto (-28), 3) := by decide +kernel
theorem dX7_plan_81 : decode cX7_plan 81 = .ok (.return_, 1) := by decide +kernel
theorem dX7_planWith_0 : decode cX7_planWith 0 = .ok (.iload_n 2, 1) := by decide +kernel
theorem dX7_planWith_1 : decode cX7_planWith 1 = .ok (.istore 4, 2) := by decide +kernel
theorem dX7_planWith_3 : decode cX7_planWith 3 = .ok (.iload 4, 2) := by decide +kernel
theorem dX7_planWith_5 : decode cX7_planWith 5 = .ok (.bipush 15, 2) := by decide +kernel
theorem dX7_planWith_7 : decode cX7_planWith 7 = .ok (.if_icmp .gt 85, 3) := by decide +kernel
theorem dX7_planWith_10 : decode cX7_planWith 10 = .ok (.iload_n 3, 1) := by decide +kernel
theorem dX7_planWith_11 : decode cX7_planWith 11 = .ok (.istore 5, 2) := by decide +kernel
theorem dX7_planWith_13 : decode cX7_planWith 13 = .ok (.iload 5, 2) := by decide +kernel
theorem dX7_planWith_15 : decode cX7_planWith 15 = .ok (.bipush 15, 2) := by decide +kernel
theorem dX7_planWith_17 : decode cX7_planWith 17 = .ok (.if_icmp .gt 69, 3) := by decide +kernel
theorem dX7_planWith_20 : decode cX7_planWith 20 = .ok (.iload_n 1, 1) := by decide +kernel
theorem dX7_planWith_21 : decode cX7_planWith 21 = .ok (.iload 4, 2) := by decide +kernel
theorem dX7_planWith_23 : decode cX7_planWith 23 = .ok (.iadd, 1) := by decide +kernel
theorem dX7_planWith_24 : decode cX7_planWith 24 = .ok (.iload 5, 2) := by decide +kernel
theorem dX7_planWith_26 : decode cX7_planWith 26 = .ok (.iadd, 1) := by decide +kernel
theorem dX7_planWith_27 : decode cX7_planWith 27 = .ok (.aload_n 0, 1) := by decide +kernel
theorem dX7_planWith_28 : decode cX7_planWith 28 = .ok (.getfield 39, 3) := by decide +kernel
theorem dX7_planWith_31 : decode cX7_planWith 31 = .ok (.if_icmp .ge 55, 3) := by decide +kernel
theorem dX7_planWith_34 : decode cX7_planWith 34 = .ok (.aload_n 0, 1) := by decide +kernel
theorem dX7_planWith_35 : decode cX7_planWith 35 = .ok (.iload_n 1, 1) := by decide +kernel
theorem dX7_planWith_36 : decode cX7_planWith 36 = .ok (.iload 4, 2) := by decide +kernel
theorem dX7_planWith_38 : decode cX7_planWith 38 = .ok (.iload 5, 2) := by decide +kernel
theorem dX7_planWith_40 : decode cX7_planWith 40 = .ok (.invokevirtual 42, 3) := by decide +kernel
theorem dX7_planWith_43 : decode cX7_planWith 43 = .ok (.ifCond .eq 37, 3) := by decide +kernel
theorem dX7_planWith_46 : decode cX7_planWith 46 = .ok (.aload_n 0, 1) := by decide +kernel
theorem dX7_planWith_47 : decode cX7_planWith 47 = .ok (.iload_n 1, 1) := by decide +kernel
theorem dX7_planWith_48 : decode cX7_planWith 48 = .ok (.iload 4, 2) := by decide +kernel
theorem dX7_planWith_50 : decode cX7_planWith 50 = .ok (.iadd, 1) := by decide +kernel
theorem dX7_planWith_51 : decode cX7_planWith 51 = .ok (.iload 5, 2) := by decide +kernel
theorem dX7_planWith_53 : decode cX7_planWith 53 = .ok (.iadd, 1) := by decide +kernel
theorem dX7_planWith_54 : decode cX7_planWith 54 = .ok (.putfield 39, 3) := by decide +kernel
theorem dX7_planWith_57 : decode cX7_planWith 57 = .ok (.aload_n 0, 1) := by decide +kernel
theorem dX7_planWith_58 : decode cX7_planWith 58 = .ok (.getfield 15, 3) := by decide +kernel
theorem dX7_planWith_61 : decode cX7_planWith 61 = .ok (.iconst 0, 1) := by decide +kernel
theorem dX7_planWith_62 : decode cX7_planWith 62 = .ok (.iload_n 1, 1) := by decide +kernel
theorem dX7_planWith_63 : decode cX7_planWith 63 = .ok (.iastore, 1) := by decide +kernel
theorem dX7_planWith_64 : decode cX7_planWith 64 = .ok (.aload_n 0, 1) := by decide +kernel
theorem dX7_planWith_65 : decode cX7_planWith 65 = .ok (.getfield 15, 3) := by decide +kernel
theorem dX7_planWith_68 : decode cX7_planWith 68 = .ok (.iconst 1, 1) := by decide +kernel
theorem dX7_planWith_69 : decode cX7_planWith 69 = .ok (.iload 4, 2) := by decide +kernel
theorem dX7_planWith_71 : decode cX7_planWith 71 = .ok (.iastore, 1) := by decide +kernel
theorem dX7_planWith_72 : decode cX7_planWith 72 = .ok (.aload_n 0, 1) := by decide +kernel
theorem dX7_planWith_73 : decode cX7_planWith 73 = .ok (.getfield 15, 3) := by decide +kernel
theorem dX7_planWith_76 : decode cX7_planWith 76 = .ok (.iconst 2, 1) := by decide +kernel
theorem dX7_planWith_77 : decode cX7_planWith 77 = .ok (.iload 5, 2) := by decide +kernel
theorem dX7_planWith_79 : decode cX7_planWith 79 = .ok (.iastore, 1) := by decide +kernel
theorem dX7_planWith_80 : decode cX7_planWith 80 = .ok (.iinc 5 1, 3) := by decide +kernel
theorem dX7_planWith_83 : decode cX7_planWith 83 = .ok (.goto (-70), 3) := by decide +kernel
theorem dX7_planWith_86 : decode cX7_planWith 86 = .ok (.iinc 4 1, 3) := by decide +kernel
theorem dX7_planWith_89 : decode cX7_planWith 89 = .ok (.goto (-86), 3) := by decide +kernel
theorem dX7_planWith_92 : decode cX7_planWith 92 = .ok (.return_, 1) := by decide +kernel
theorem dX7_leastOfTwo_0 : decode cX7_leastOfTwo 0 = .ok (.bipush 15, 2) := by decide +kernel
theorem dX7_leastOfTwo_2 : decode cX7_leastOfTwo 2 = .ok (.istore_n 1, 1) := by decide +kernel
theorem dX7_leastOfTwo_3 : decode cX7_leastOfTwo 3 = .ok (.bipush 15, 2) := by decide +kernel
theorem dX7_leastOfTwo_5 : decode cX7_leastOfTwo 5 = .ok (.istore_n 2, 1) := by decide +kernel
theorem dX7_leastOfTwo_6 : decode cX7_leastOfTwo 6 = .ok (.iload_n 2, 1) := by decide +kernel
theorem dX7_leastOfTwo_7 : decode cX7_leastOfTwo 7 = .ok (.ifCond .lt 23, 3) := by decide +kernel
theorem dX7_leastOfTwo_10 : decode cX7_leastOfTwo 10 = .ok (.aload_n 0, 1) := by decide +kernel
theorem dX7_leastOfTwo_11 : decode cX7_leastOfTwo 11 = .ok (.bipush 15, 2) := by decide +kernel
theorem dX7_leastOfTwo_13 : decode cX7_leastOfTwo 13 = .ok (.iload_n 2, 1) := by decide +kernel
theorem dX7_leastOfTwo_14 : decode cX7_leastOfTwo 14 = .ok (.bipush 15, 2) := by decide +kernel
theorem dX7_leastOfTwo_16 : decode cX7_leastOfTwo 16 = .ok (.invokevirtual 42, 3) := by decide +kernel
theorem dX7_leastOfTwo_19 : decode cX7_leastOfTwo 19 = .ok (.ifCond .eq 11, 3) := by decide +kernel
theorem dX7_leastOfTwo_22 : decode cX7_leastOfTwo 22 = .ok (.iload_n 2, 1) := by decide +kernel
theorem dX7_leastOfTwo_23 : decode cX7_leastOfTwo 23 = .ok (.istore_n 1, 1) := by decide +kernel
theorem dX7_leastOfTwo_24 : decode cX7_leastOfTwo 24 = .ok (.iinc 2 (-1), 3) := by decide +kernel
theorem dX7_leastOfTwo_27 : decode cX7_leastOfTwo 27 = .ok (.goto (-21), 3) := by decide +kernel
theorem dX7_leastOfTwo_30 : decode cX7_leastOfTwo 30 = .ok (.iload_n 1, 1) := by decide +kernel
theorem dX7_leastOfTwo_31 : decode cX7_leastOfTwo 31 = .ok (.ireturn, 1) := by decide +kernel
theorem dX7_leastOfThree_0 : decode cX7_leastOfThree 0 = .ok (.bipush 15, 2) := by decide +kernel
theorem dX7_leastOfThree_2 : decode cX7_leastOfThree 2 = .ok (.istore_n 1, 1) := by decide +kernel
theorem dX7_leastOfThree_3 : decode cX7_leastOfThree 3 = .ok (.bipush 15, 2) := by decide +kernel
theorem dX7_leastOfThree_5 : decode cX7_leastOfThree 5 = .ok (.istore_n 2, 1) := by decide +kernel
theorem dX7_leastOfThree_6 : decode cX7_leastOfThree 6 = .ok (.iload_n 2, 1) := by decide +kernel
theorem dX7_leastOfThree_7 : decode cX7_leastOfThree 7 = .ok (.ifCond .lt 23, 3) := by decide +kernel
theorem dX7_leastOfThree_10 : decode cX7_leastOfThree 10 = .ok (.aload_n 0, 1) := by decide +kernel
theorem dX7_leastOfThree_11 : decode cX7_leastOfThree 11 = .ok (.bipush 15, 2) := by decide +kernel
theorem dX7_leastOfThree_13 : decode cX7_leastOfThree 13 = .ok (.bipush 15, 2) := by decide +kernel
theorem dX7_leastOfThree_15 : decode cX7_leastOfThree 15 = .ok (.iload_n 2, 1) := by decide +kernel
theorem dX7_leastOfThree_16 : decode cX7_leastOfThree 16 = .ok (.invokevirtual 42, 3) := by decide +kernel
theorem dX7_leastOfThree_19 : decode cX7_leastOfThree 19 = .ok (.ifCond .eq 11, 3) := by decide +kernel
theorem dX7_leastOfThree_22 : decode cX7_leastOfThree 22 = .ok (.iload_n 2, 1) := by decide +kernel
theorem dX7_leastOfThree_23 : decode cX7_leastOfThree 23 = .ok (.istore_n 1, 1) := by decide +kernel
theorem dX7_leastOfThree_24 : decode cX7_leastOfThree 24 = .ok (.iinc 2 (-1), 3) := by decide +kernel
theorem dX7_leastOfThree_27 : decode cX7_leastOfThree 27 = .ok (.goto (-21), 3) := by decide +kernel
theorem dX7_leastOfThree_30 : decode cX7_leastOfThree 30 = .ok (.iload_n 1, 1) := by decide +kernel
theorem dX7_leastOfThree_31 : decode cX7_leastOfThree 31 = .ok (.ireturn, 1) := by decide +kernel
theorem dX8_init_0 : decode cX8_init 0 = .ok (.aload_n 0, 1) := by decide +kernel
theorem dX8_init_1 : decode cX8_init 1 = .ok (.invokespecial 3, 3) := by decide +kernel
theorem dX8_init_4 : decode cX8_init 4 = .ok (.aload_n 0, 1) := by decide +kernel
theorem dX8_init_5 : decode cX8_init 5 = .ok (.iload_n 1, 1) := by decide +kernel
theorem dX8_init_6 : decode cX8_init 6 = .ok (.newarray .int, 2) := by decide +kernel
theorem dX8_init_8 : decode cX8_init 8 = .ok (.putfield 9, 3) := by decide +kernel
theorem dX8_init_11 : decode cX8_init 11 = .ok (.aload_n 0, 1) := by decide +kernel
theorem dX8_init_12 : decode cX8_init 12 = .ok (.iload_n 1, 1) := by decide +kernel
theorem dX8_init_13 : decode cX8_init 13 = .ok (.newarray .int, 2) := by decide +kernel
theorem dX8_init_15 : decode cX8_init 15 = .ok (.putfield 15, 3) := by decide +kernel
theorem dX8_init_18 : decode cX8_init 18 = .ok (.aload_n 0, 1) := by decide +kernel
theorem dX8_init_19 : decode cX8_init 19 = .ok (.iload_n 1, 1) := by decide +kernel
theorem dX8_init_20 : decode cX8_init 20 = .ok (.newarray .int, 2) := by decide +kernel
theorem dX8_init_22 : decode cX8_init 22 = .ok (.putfield 18, 3) := by decide +kernel
theorem dX8_init_25 : decode cX8_init 25 = .ok (.return_, 1) := by decide +kernel
theorem dX8_put_0 : decode cX8_put 0 = .ok (.aload_n 0, 1) := by decide +kernel
theorem dX8_put_1 : decode cX8_put 1 = .ok (.getfield 9, 3) := by decide +kernel
theorem dX8_put_4 : decode cX8_put 4 = .ok (.aload_n 0, 1) := by decide +kernel
theorem dX8_put_5 : decode cX8_put 5 = .ok (.getfield 21, 3) := by decide +kernel
theorem dX8_put_8 : decode cX8_put 8 = .ok (.iload_n 1, 1) := by decide +kernel
theorem dX8_put_9 : decode cX8_put 9 = .ok (.iastore, 1) := by decide +kernel
theorem dX8_put_10 : decode cX8_put 10 = .ok (.aload_n 0, 1) := by decide +kernel
theorem dX8_put_11 : decode cX8_put 11 = .ok (.getfield 15, 3) := by decide +kernel
theorem dX8_put_14 : decode cX8_put 14 = .ok (.aload_n 0, 1) := by decide +kernel
theorem dX8_put_15 : decode cX8_put 15 = .ok (.getfield 21, 3) := by decide +kernel
theorem dX8_put_18 : decode cX8_put 18 = .ok (.iload_n 2, 1) := by decide +kernel
theorem dX8_put_19 : decode cX8_put 19 = .ok (.iastore, 1) := by decide +kernel
theorem dX8_put_20 : decode cX8_put 20 = .ok (.aload_n 0, 1) := by decide +kernel
theorem dX8_put_21 : decode cX8_put 21 = .ok (.getfield 18, 3) := by decide +kernel
theorem dX8_put_24 : decode cX8_put 24 = .ok (.aload_n 0, 1) := by decide +kernel
theorem dX8_put_25 : decode cX8_put 25 = .ok (.getfield 21, 3) := by decide +kernel
theorem dX8_put_28 : decode cX8_put 28 = .ok (.iload_n 3, 1) := by decide +kernel
theorem dX8_put_29 : decode cX8_put 29 = .ok (.iastore, 1) := by decide +kernel
theorem dX8_put_30 : decode cX8_put 30 = .ok (.aload_n 0, 1) := by decide +kernel
theorem dX8_put_31 : decode cX8_put 31 = .ok (.dup, 1) := by decide +kernel
theorem dX8_put_32 : decode cX8_put 32 = .ok (.getfield 21, 3) := by decide +kernel
theorem dX8_put_35 : decode cX8_put 35 = .ok (.iconst 1, 1) := by decide +kernel
theorem dX8_put_36 : decode cX8_put 36 = .ok (.iadd, 1) := by decide +kernel
theorem dX8_put_37 : decode cX8_put 37 = .ok (.putfield 21, 3) := by decide +kernel
theorem dX8_put_40 : decode cX8_put 40 = .ok (.aload_n 0, 1) := by decide +kernel
theorem dX8_put_41 : decode cX8_put 41 = .ok (.getfield 21, 3) := by decide +kernel
theorem dX8_put_44 : decode cX8_put 44 = .ok (.ireturn, 1) := by decide +kernel
theorem dX8_stoppedIn_0 : decode cX8_stoppedIn 0 = .ok (.iconst 0, 1) := by decide +kernel
theorem dX8_stoppedIn_1 : decode cX8_stoppedIn 1 = .ok (.istore_n 2, 1) := by decide +kernel
theorem dX8_stoppedIn_2 : decode cX8_stoppedIn 2 = .ok (.iconst 0, 1) := by decide +kernel
theorem dX8_stoppedIn_3 : decode cX8_stoppedIn 3 = .ok (.istore_n 3, 1) := by decide +kernel
theorem dX8_stoppedIn_4 : decode cX8_stoppedIn 4 = .ok (.iload_n 3, 1) := by decide +kernel
theorem dX8_stoppedIn_5 : decode cX8_stoppedIn 5 = .ok (.aload_n 0, 1) := by decide +kernel
theorem dX8_stoppedIn_6 : decode cX8_stoppedIn 6 = .ok (.getfield 21, 3) := by decide +kernel
theorem dX8_stoppedIn_9 : decode cX8_stoppedIn 9 = .ok (.if_icmp .ge 40, 3) := by decide +kernel
theorem dX8_stoppedIn_12 : decode cX8_stoppedIn 12 = .ok (.aload_n 0, 1) := by decide +kernel
theorem dX8_stoppedIn_13 : decode cX8_stoppedIn 13 = .ok (.getfield 15, 3) := by decide +kernel
theorem dX8_stoppedIn_16 : decode cX8_stoppedIn 16 = .ok (.iload_n 3, 1) := by decide +kernel
theorem dX8_stoppedIn_17 : decode cX8_stoppedIn 17 = .ok (.iaload, 1) := by decide +kernel
theorem dX8_stoppedIn_18 : decode cX8_stoppedIn 18 = .ok (.iload_n 1, 1) := by decide +kernel
theorem dX8_stoppedIn_19 : decode cX8_stoppedIn 19 = .ok (.if_icmp .gt 24, 3) := by decide +kernel
theorem dX8_stoppedIn_22 : decode cX8_stoppedIn 22 = .ok (.iload_n 1, 1) := by decide +kernel
theorem dX8_stoppedIn_23 : decode cX8_stoppedIn 23 = .ok (.aload_n 0, 1) := by decide +kernel
theorem dX8_stoppedIn_24 : decode cX8_stoppedIn 24 = .ok (.getfield 18, 3) := by decide +kernel
theorem dX8_stoppedIn_27 : decode cX8_stoppedIn 27 = .ok (.iload_n 3, 1) := by decide +kernel
theorem dX8_stoppedIn_28 : decode cX8_stoppedIn 28 = .ok (.iaload, 1) := by decide +kernel
theorem dX8_stoppedIn_29 : decode cX8_stoppedIn 29 = .ok (.if_icmp .gt 14, 3) := by decide +kernel
theorem dX8_stoppedIn_32 : decode cX8_stoppedIn 32 = .ok (.iload_n 2, 1) := by decide +kernel
theorem dX8_stoppedIn_33 : decode cX8_stoppedIn 33 = .ok (.iconst 1, 1) := by decide +kernel
theorem dX8_stoppedIn_34 : decode cX8_stoppedIn 34 = .ok (.aload_n 0, 1) := by decide +kernel
theorem dX8_stoppedIn_35 : decode cX8_stoppedIn 35 = .ok (.getfield 9, 3) := by decide +kernel
theorem dX8_stoppedIn_38 : decode cX8_stoppedIn 38 = .ok (.iload_n 3, 1) := by decide +kernel
theorem dX8_stoppedIn_39 : decode cX8_stoppedIn 39 = .ok (.iaload, 1) := by decide +kernel
theorem dX8_stoppedIn_40 : decode cX8_stoppedIn 40 = .ok (.ishl, 1) := by decide +kernel
theorem dX8_stoppedIn_41 : decode cX8_stoppedIn 41 = .ok (.ior, 1) := by decide +kernel
theorem dX8_stoppedIn_42 : decode cX8_stoppedIn 42 = .ok (.istore_n 2, 1) := by decide +kernel
theorem dX8_stoppedIn_43 : decode cX8_stoppedIn 43 = .ok (.iinc 3 1, 3) := by decide +kernel
theorem dX8_stoppedIn_46 : decode cX8_stoppedIn 46 = .ok (.goto (-42), 3) := by decide +kernel
theorem dX8_stoppedIn_49 : decode cX8_stoppedIn 49 = .ok (.iload_n 2, 1) := by decide +kernel
theorem dX8_stoppedIn_50 : decode cX8_stoppedIn 50 = .ok (.ireturn, 1) := by decide +kernel
theorem dX8_endOfThoseIn_0 : decode cX8_endOfThoseIn 0 = .ok (.iconst (-1), 1) := by decide +kernel
theorem dX8_endOfThoseIn_1 : decode cX8_endOfThoseIn 1 = .ok (.istore 4, 2) := by decide +kernel
theorem dX8_endOfThoseIn_3 : decode cX8_endOfThoseIn 3 = .ok (.iconst 0, 1) := by decide +kernel
theorem dX8_endOfThoseIn_4 : decode cX8_endOfThoseIn 4 = .ok (.istore 5, 2) := by decide +kernel
theorem dX8_endOfThoseIn_6 : decode cX8_endOfThoseIn 6 = .ok (.iload 5, 2) := by decide +kernel
theorem dX8_endOfThoseIn_8 : decode cX8_endOfThoseIn 8 = .ok (.aload_n 0, 1) := by decide +kernel
theorem dX8_endOfThoseIn_9 : decode cX8_endOfThoseIn 9 = .ok (.getfield 21, 3) := by decide +kernel
theorem dX8_endOfThoseIn_12 : decode cX8_endOfThoseIn 12 = .ok (.if_icmp .ge 56, 3) := by decide +kernel
theorem dX8_endOfThoseIn_15 : decode cX8_endOfThoseIn 15 = .ok (.aload_n 0, 1) := by decide +kernel
theorem dX8_endOfThoseIn_16 : decode cX8_endOfThoseIn 16 = .ok (.getfield 9, 3) := by decide +kernel
theorem dX8_endOfThoseIn_19 : decode cX8_endOfThoseIn 19 = .ok (.iload 5, 2) := by decide +kernel
theorem dX8_endOfThoseIn_21 : decode cX8_endOfThoseIn 21 = .ok (.iaload, 1) := by decide +kernel
theorem dX8_endOfThoseIn_22 : decode cX8_endOfThoseIn 22 = .ok (.iload_n 1, 1) := by decide +kernel
theorem dX8_endOfThoseIn_23 : decode cX8_endOfThoseIn 23 = .ok (.if_icmp .ne 39, 3) := by decide +kernel
theorem dX8_endOfThoseIn_26 : decode cX8_endOfThoseIn 26 = .ok (.aload_n 0, 1) := by decide +kernel
theorem dX8_endOfThoseIn_27 : decode cX8_endOfThoseIn 27 = .ok (.getfield 15, 3) := by decide +kernel
theorem dX8_endOfThoseIn_30 : decode cX8_endOfThoseIn 30 = .ok (.iload 5, 2) := by decide +kernel
theorem dX8_endOfThoseIn_32 : decode cX8_endOfThoseIn 32 = .ok (.iaload, 1) := by decide +kernel
theorem dX8_endOfThoseIn_33 : decode cX8_endOfThoseIn 33 = .ok (.iload_n 3, 1) := by decide +kernel
theorem dX8_endOfThoseIn_34 : decode cX8_endOfThoseIn 34 = .ok (.if_icmp .gt 28, 3) := by decide +kernel
theorem dX8_endOfThoseIn_37 : decode cX8_endOfThoseIn 37 = .ok (.iload_n 2, 1) := by decide +kernel
theorem dX8_endOfThoseIn_38 : decode cX8_endOfThoseIn 38 = .ok (.aload_n 0, 1) := by decide +kernel
theorem dX8_endOfThoseIn_39 : decode cX8_endOfThoseIn 39 = .ok (.getfield 18, 3) := by decide +kernel
theorem dX8_endOfThoseIn_42 : decode cX8_endOfThoseIn 42 = .ok (.iload 5, 2) := by decide +kernel
theorem dX8_endOfThoseIn_44 : decode cX8_endOfThoseIn 44 = .ok (.iaload, 1) := by decide +kernel
theorem dX8_endOfThoseIn_45 : decode cX8_endOfThoseIn 45 = .ok (.if_icmp .gt 17, 3) := by decide +kernel
theorem dX8_endOfThoseIn_48 : decode cX8_endOfThoseIn 48 = .ok (.iload 4, 2) := by decide +kernel
theorem dX8_endOfThoseIn_50 : decode cX8_endOfThoseIn 50 = .ok (.aload_n 0, 1) := by decide +kernel
theorem dX8_endOfThoseIn_51 : decode cX8_endOfThoseIn 51 = .ok (.getfield 18, 3) := by decide +kernel
theorem dX8_endOfThoseIn_54 : decode cX8_endOfThoseIn 54 = .ok (.iload 5, 2) := by decide +kernel
theorem dX8_endOfThoseIn_56 : decode cX8_endOfThoseIn 56 = .ok (.iaload, 1) := by decide +kernel
theorem dX8_endOfThoseIn_57 : decode cX8_endOfThoseIn 57 = .ok (.invokestatic 25, 3) := by decide +kernel
theorem dX8_endOfThoseIn_60 : decode cX8_endOfThoseIn 60 = .ok (.istore 4, 2) := by decide +kernel
theorem dX8_endOfThoseIn_62 : decode cX8_endOfThoseIn 62 = .ok (.iinc 5 1, 3) := by decide +kernel
theorem dX8_endOfThoseIn_65 : decode cX8_endOfThoseIn 65 = .ok (.goto (-59), 3) := by decide +kernel
theorem dX8_endOfThoseIn_68 : decode cX8_endOfThoseIn 68 = .ok (.iload 4, 2) := by decide +kernel
theorem dX8_endOfThoseIn_70 : decode cX8_endOfThoseIn 70 = .ok (.ireturn, 1) := by decide +kernel
theorem dX9_init_0 : decode cX9_init 0 = .ok (.aload_n 0, 1) := by decide +kernel
theorem dX9_init_1 : decode cX9_init 1 = .ok (.invokespecial 3, 3) := by decide +kernel
theorem dX9_init_4 : decode cX9_init 4 = .ok (.aload_n 0, 1) := by decide +kernel
theorem dX9_init_5 : decode cX9_init 5 = .ok (.bipush 8, 2) := by decide +kernel
theorem dX9_init_7 : decode cX9_init 7 = .ok (.newarray .int, 2) := by decide +kernel
theorem dX9_init_9 : decode cX9_init 9 = .ok (.putfield 9, 3) := by decide +kernel
theorem dX9_init_12 : decode cX9_init 12 = .ok (.aload_n 0, 1) := by decide +kernel
theorem dX9_init_13 : decode cX9_init 13 = .ok (.bipush 8, 2) := by decide +kernel
theorem dX9_init_15 : decode cX9_init 15 = .ok (.bipush 7, 2) := by decide +kernel
theorem dX9_init_17 : decode cX9_init 17 = .ok (.multianewarray 15 2, 4) := by decide +kernel
theorem dX9_init_21 : decode cX9_init 21 = .ok (.putfield 17, 3) := by decide +kernel
theorem dX9_init_24 : decode cX9_init 24 = .ok (.aload_n 0, 1) := by decide +kernel
theorem dX9_init_25 : decode cX9_init 25 = .ok (.bipush 8, 2) := by decide +kernel
theorem dX9_init_27 : decode cX9_init 27 = .ok (.bipush 7, 2) := by decide +kernel
theorem dX9_init_29 : decode cX9_init 29 = .ok (.multianewarray 15 2, 4) := by decide +kernel
theorem dX9_init_33 : decode cX9_init 33 = .ok (.putfield 20, 3) := by decide +kernel
theorem dX9_init_36 : decode cX9_init 36 = .ok (.aload_n 0, 1) := by decide +kernel
theorem dX9_init_37 : decode cX9_init 37 = .ok (.bipush 8, 2) := by decide +kernel
theorem dX9_init_39 : decode cX9_init 39 = .ok (.newarray .int, 2) := by decide +kernel
theorem dX9_init_41 : decode cX9_init 41 = .ok (.putfield 23, 3) := by decide +kernel
theorem dX9_init_44 : decode cX9_init 44 = .ok (.return_, 1) := by decide +kernel
theorem dX9_begin_0 : decode cX9_begin 0 = .ok (.aload_n 0, 1) := by decide +kernel
theorem dX9_begin_1 : decode cX9_begin 1 = .ok (.getfield 9, 3) := by decide +kernel
theorem dX9_begin_4 : decode cX9_begin 4 = .ok (.aload_n 0, 1) := by decide +kernel
theorem dX9_begin_5 : decode cX9_begin 5 = .ok (.getfield 26, 3) := by decide +kernel
theorem dX9_begin_8 : decode cX9_begin 8 = .ok (.iload_n 1, 1) := by decide +kernel
theorem dX9_begin_9 : decode cX9_begin 9 = .ok (.iastore, 1) := by decide +kernel
theorem dX9_begin_10 : decode cX9_begin 10 = .ok (.aload_n 0, 1) := by decide +kernel
theorem dX9_begin_11 : decode cX9_begin 11 = .ok (.getfield 17, 3) := by decide +kernel
theorem dX9_begin_14 : decode cX9_begin 14 = .ok (.aload_n 0, 1) := by decide +kernel
theorem dX9_begin_15 : decode cX9_begin 15 = .ok (.getfield 26, 3) := by decide +kernel
theorem dX9_begin_18 : decode cX9_begin 18 = .ok (.aaload, 1) := by decide +kernel
theorem dX9_begin_19 : decode cX9_begin 19 = .ok (.iconst 2, 1) := by decide +kernel
theorem dX9_begin_20 : decode cX9_begin 20 = .ok (.invokestatic 30, 3) := by decide +kernel
theorem dX9_begin_23 : decode cX9_begin 23 = .ok (.aload_n 0, 1) := by decide +kernel
theorem dX9_begin_24 : decode cX9_begin 24 = .ok (.dup, 1) := by decide +kernel
theorem dX9_begin_25 : decode cX9_begin 25 = .ok (.getfield 26, 3) := by decide +kernel
theorem dX9_begin_28 : decode cX9_begin 28 = .ok (.iconst 1, 1) := by decide +kernel
theorem dX9_begin_29 : decode cX9_begin 29 = .ok (.iadd, 1) := by decide +kernel
theorem dX9_begin_30 : decode cX9_begin 30 = .ok (.putfield 26, 3) := by decide +kernel
theorem dX9_begin_33 : decode cX9_begin 33 = .ok (.aload_n 0, 1) := by decide +kernel
theorem dX9_begin_34 : decode cX9_begin 34 = .ok (.getfield 26, 3) := by decide +kernel
theorem dX9_begin_37 : decode cX9_begin 37 = .ok (.iconst 1, 1) := by decide +kernel
theorem dX9_begin_38 : decode cX9_begin 38 = .ok (.isub, 1) := by decide +kernel
theorem dX9_begin_39 : decode cX9_begin 39 = .ok (.ireturn, 1) := by decide +kernel
theorem dX9_firstWrong_0 : decode cX9_firstWrong 0 = .ok (.iconst 0, 1) := by decide +kernel
theorem dX9_firstWrong_1 : decode cX9_firstWrong 1 = .ok (.istore_n 2, 1) := by decide +kernel
theorem dX9_firstWrong_2 : decode cX9_firstWrong 2 = .ok (.iload_n 2, 1) := by decide +kernel
theorem dX9_firstWrong_3 : decode cX9_firstWrong 3 = .ok (.aload_n 0, 1) := by decide +kernel
theorem dX9_firstWrong_4 : decode cX9_firstWrong 4 = .ok (.getfield 9, 3) := by decide +kernel
theorem dX9_firstWrong_7 : decode cX9_firstWrong 7 = .ok (.iload_n 1, 1) := by decide +kernel
theorem dX9_firstWrong_8 : decode cX9_firstWrong 8 = .ok (.iaload, 1) := by decide +kernel
theorem dX9_firstWrong_9 : decode cX9_firstWrong 9 = .ok (.if_icmp .ge 23, 3) := by decide +kernel
theorem dX9_firstWrong_12 : decode cX9_firstWrong 12 = .ok (.aload_n 0, 1) := by decide +kernel
theorem dX9_firstWrong_13 : decode cX9_firstWrong 13 = .ok (.getfield 17, 3) := by decide +kernel
theorem dX9_firstWrong_16 : decode cX9_firstWrong 16 = .ok (.iload_n 1, 1) := by decide +kernel
theorem dX9_firstWrong_17 : decode cX9_firstWrong 17 = .ok (.aaload, 1) := by decide +kernel
theorem dX9_firstWrong_18 : decode cX9_firstWrong 18 = .ok (.iload_n 2, 1) := by decide +kernel
theorem dX9_firstWrong_19 : decode cX9_firstWrong 19 = .ok (.iaload, 1) := by decide +kernel
theorem dX9_firstWrong_20 : decode cX9_firstWrong 20 = .ok (.iconst 1, 1) := by decide +kernel
theorem dX9_firstWrong_21 : decode cX9_firstWrong 21 = .ok (.if_icmp .ne 5, 3) := by decide +kernel
theorem dX9_firstWrong_24 : decode cX9_firstWrong 24 = .ok (.iload_n 2, 1) := by decide +kernel
theorem dX9_firstWrong_25 : decode cX9_firstWrong 25 = .ok (.ireturn, 1) := by decide +kernel
theorem dX9_firstWrong_26 : decode cX9_firstWrong 26 = .ok (.iinc 2 1, 3) := by decide +kernel
theorem dX9_firstWrong_29 : decode cX9_firstWrong 29 = .ok (.goto (-27), 3) := by decide +kernel
theorem dX9_firstWrong_32 : decode cX9_firstWrong 32 = .ok (.iconst (-1), 1) := by decide +kernel
theorem dX9_firstWrong_33 : decode cX9_firstWrong 33 = .ok (.ireturn, 1) := by decide +kernel
theorem dX9_lastRightAhead_0 : decode cX9_lastRightAhead 0 = .ok (.iload_n 2, 1) := by decide +kernel
theorem dX9_lastRightAhead_1 : decode cX9_lastRightAhead 1 = .ok (.iconst 1, 1) := by decide +kernel
theorem dX9_lastRightAhead_2 : decode cX9_lastRightAhead 2 = .ok (.isub, 1) := by decide +kernel
theorem dX9_lastRightAhead_3 : decode cX9_lastRightAhead 3 = .ok (.istore_n 3, 1) := by decide +kernel
theorem dX9_lastRightAhead_4 : decode cX9_lastRightAhead 4 = .ok (.iload_n 3, 1) := by decide +kernel
theorem dX9_lastRightAhead_5 : decode cX9_lastRightAhead 5 = .ok (.ifCond .lt 22, 3) := by decide +kernel
theorem dX9_lastRightAhead_8 : decode cX9_lastRightAhead 8 = .ok (.aload_n 0, 1) := by decide +kernel
theorem dX9_lastRightAhead_9 : decode cX9_lastRightAhead 9 = .ok (.getfield 17, 3) := by decide +kernel
theorem dX9_lastRightAhead_12 : decode cX9_lastRightAhead 12 = .ok (.iload_n 1, 1) := by decide +kernel
theorem dX9_lastRightAhead_13 : decode cX9_lastRightAhead 13 = .ok (.aaload, 1) := by decide +kernel
theorem dX9_lastRightAhead_14 : decode cX9_lastRightAhead 14 = .ok (.iload_n 3, 1) := by decide +kernel
theorem dX9_lastRightAhead_15 : decode cX9_lastRightAhead 15 = .ok (.iaload, 1) := by decide +kernel
theorem dX9_lastRightAhead_16 : decode cX9_lastRightAhead 16 = .ok (.ifCond .ne 5, 3) := by decide +kernel
theorem dX9_lastRightAhead_19 : decode cX9_lastRightAhead 19 = .ok (.iload_n 3, 1) := by decide +kernel
theorem dX9_lastRightAhead_20 : decode cX9_lastRightAhead 20 = .ok (.ireturn, 1) := by decide +kernel
theorem dX9_lastRightAhead_21 : decode cX9_lastRightAhead 21 = .ok (.iinc 3 (-1), 3) := by decide +kernel
theorem dX9_lastRightAhead_24 : decode cX9_lastRightAhead 24 = .ok (.goto (-20), 3) := by decide +kernel
theorem dX9_lastRightAhead_27 : decode cX9_lastRightAhead 27 = .ok (.iconst (-1), 1) := by decide +kernel
theorem dX9_lastRightAhead_28 : decode cX9_lastRightAhead 28 = .ok (.ireturn, 1) := by decide +kernel
theorem dX9_quarrels_0 : decode cX9_quarrels 0 = .ok (.iconst 0, 1) := by decide +kernel
theorem dX9_quarrels_1 : decode cX9_quarrels 1 = .ok (.istore_n 2, 1) := by decide +kernel
theorem dX9_quarrels_2 : decode cX9_quarrels 2 = .ok (.iconst 0, 1) := by decide +kernel
theorem dX9_quarrels_3 : decode cX9_quarrels 3 = .ok (.istore_n 3, 1) := by decide +kernel
theorem dX9_quarrels_4 : decode cX9_quarrels 4 = .ok (.iload_n 3, 1) := by decide +kernel
theorem dX9_quarrels_5 : decode cX9_quarrels 5 = .ok (.aload_n 0, 1) := by decide +kernel
theorem dX9_quarrels_6 : decode cX9_quarrels 6 = .ok (.getfield 9, 3) := by decide +kernel
theorem dX9_quarrels_9 : decode cX9_quarrels 9 = .ok (.iload_n 1, 1) := by decide +kernel
theorem dX9_quarrels_10 : decode cX9_quarrels 10 = .ok (.iaload, 1) := by decide +kernel
theorem dX9_quarrels_11 : decode cX9_quarrels 11 = .ok (.if_icmp .ge 48, 3) := by decide +kernel
theorem dX9_quarrels_14 : decode cX9_quarrels 14 = .ok (.iload_n 2, 1) := by decide +kernel
theorem dX9_quarrels_15 : decode cX9_quarrels 15 = .ok (.ifCond .eq 16, 3) := by decide +kernel
theorem dX9_quarrels_18 : decode cX9_quarrels 18 = .ok (.aload_n 0, 1) := by decide +kernel
theorem dX9_quarrels_19 : decode cX9_quarrels 19 = .ok (.getfield 17, 3) := by decide +kernel
theorem dX9_quarrels_22 : decode cX9_quarrels 22 = .ok (.iload_n 1, 1) := by decide +kernel
theorem dX9_quarrels_23 : decode cX9_quarrels 23 = .ok (.aaload, 1) := by decide +kernel
theorem dX9_quarrels_24 : decode cX9_quarrels 24 = .ok (.iload_n 3, 1) := by decide +kernel
theorem dX9_quarrels_25 : decode cX9_quarrels 25 = .ok (.iaload, 1) := by decide +kernel
theorem dX9_quarrels_26 : decode cX9_quarrels 26 = .ok (.ifCond .ne 5, 3) := by decide +kernel
theorem dX9_quarrels_29 : decode cX9_quarrels 29 = .ok (.iconst 1, 1) := by decide +kernel
theorem dX9_quarrels_30 : decode cX9_quarrels 30 = .ok (.ireturn, 1) := by decide +kernel
theorem dX9_quarrels_31 : decode cX9_quarrels 31 = .ok (.iload_n 2, 1) := by decide +kernel
theorem dX9_quarrels_32 : decode cX9_quarrels 32 = .ok (.ifCond .ne 15, 3) := by decide +kernel
theorem dX9_quarrels_35 : decode cX9_quarrels 35 = .ok (.aload_n 0, 1) := by decide +kernel
theorem dX9_quarrels_36 : decode cX9_quarrels 36 = .ok (.getfield 17, 3) := by decide +kernel
theorem dX9_quarrels_39 : decode cX9_quarrels 39 = .ok (.iload_n 1, 1) := by decide +kernel
theorem dX9_quarrels_40 : decode cX9_quarrels 40 = .ok (.aaload, 1) := by decide +kernel
theorem dX9_quarrels_41 : decode cX9_quarrels 41 = .ok (.iload_n 3, 1) := by decide +kernel
theorem dX9_quarrels_42 : decode cX9_quarrels 42 = .ok (.iaload, 1) := by decide +kernel
theorem dX9_quarrels_43 : decode cX9_quarrels 43 = .ok (.iconst 1, 1) := by decide +kernel
theorem dX9_quarrels_44 : decode cX9_quarrels 44 = .ok (.if_icmp .ne 7, 3) := by decide +kernel
theorem dX9_quarrels_47 : decode cX9_quarrels 47 = .ok (.iconst 1, 1) := by decide +kernel
theorem dX9_quarrels_48 : decode cX9_quarrels 48 = .ok (.goto 4, 3) := by decide +kernel
theorem dX9_quarrels_51 : decode cX9_quarrels 51 = .ok (.iconst 0, 1) := by decide +kernel
theorem dX9_quarrels_52 : decode cX9_quarrels 52 = .ok (.istore_n 2, 1) := by decide +kernel
theorem dX9_quarrels_53 : decode cX9_quarrels 53 = .ok (.iinc 3 1, 3) := by decide +kernel
theorem dX9_quarrels_56 : decode cX9_quarrels 56 = .ok (.goto (-52), 3) := by decide +kernel
theorem dX9_quarrels_59 : decode cX9_quarrels 59 = .ok (.iconst 0, 1) := by decide +kernel
theorem dX9_quarrels_60 : decode cX9_quarrels 60 = .ok (.ireturn, 1) := by decide +kernel
theorem dX9_suspectsOf_0 : decode cX9_suspectsOf 0 = .ok (.aload_n 0, 1) := by decide +kernel
theorem dX9_suspectsOf_1 : decode cX9_suspectsOf 1 = .ok (.iload_n 1, 1) := by decide +kernel
theorem dX9_suspectsOf_2 : decode cX9_suspectsOf 2 = .ok (.invokevirtual 36, 3) := by decide +kernel
theorem dX9_suspectsOf_5 : decode cX9_suspectsOf 5 = .ok (.istore_n 2, 1) := by decide +kernel
theorem dX9_suspectsOf_6 : decode cX9_suspectsOf 6 = .ok (.iload_n 2, 1) := by decide +kernel
theorem dX9_suspectsOf_7 : decode cX9_suspectsOf 7 = .ok (.iconst (-1), 1) := by decide +kernel
theorem dX9_suspectsOf_8 : decode cX9_suspectsOf 8 = .ok (.if_icmp .eq 11, 3) := by decide +kernel
theorem dX9_suspectsOf_11 : decode cX9_suspectsOf 11 = .ok (.aload_n 0, 1) := by decide +kernel
theorem dX9_suspectsOf_12 : decode cX9_suspectsOf 12 = .ok (.iload_n 1, 1) := by decide +kernel
theorem dX9_suspectsOf_13 : decode cX9_suspectsOf 13 = .ok (.invokevirtual 40, 3) := by decide +kernel
theorem dX9_suspectsOf_16 : decode cX9_suspectsOf 16 = .ok (.ifCond .eq 5, 3) := by decide +kernel
theorem dX9_suspectsOf_19 : decode cX9_suspectsOf 19 = .ok (.iconst 0, 1) := by decide +kernel
theorem dX9_suspectsOf_20 : decode cX9_suspectsOf 20 = .ok (.ireturn, 1) := by decide +kernel
theorem dX9_suspectsOf_21 : decode cX9_suspectsOf 21 = .ok (.iconst 0, 1) := by decide +kernel
theorem dX9_suspectsOf_22 : decode cX9_suspectsOf 22 = .ok (.istore_n 3, 1) := by decide +kernel
theorem dX9_suspectsOf_23 : decode cX9_suspectsOf 23 = .ok (.iconst 0, 1) := by decide +kernel
theorem dX9_suspectsOf_24 : decode cX9_suspectsOf 24 = .ok (.aload_n 0, 1) := by decide +kernel
theorem dX9_suspectsOf_25 : decode cX9_suspectsOf 25 = .ok (.iload_n 1, 1) := by decide +kernel
theorem dX9_suspectsOf_26 : decode cX9_suspectsOf 26 = .ok (.iload_n 2, 1) := by decide +kernel
theorem dX9_suspectsOf_27 : decode cX9_suspectsOf 27 = .ok (.invokevirtual 44, 3) := by decide +kernel
theorem dX9_suspectsOf_30 : decode cX9_suspectsOf 30 = .ok (.invokestatic 48, 3) := by decide +kernel
theorem dX9_suspectsOf_33 : decode cX9_suspectsOf 33 = .ok (.istore 4, 2) := by decide +kernel
theorem dX9_suspectsOf_35 : decode cX9_suspectsOf 35 = .ok (.iload 4, 2) := by decide +kernel
theorem dX9_suspectsOf_37 : decode cX9_suspectsOf 37 = .ok (.iload_n 2, 1) := by decide +kernel
theorem dX9_suspectsOf_38 : decode cX9_suspectsOf 38 = .ok (.if_icmp .ge 23, 3) := by decide +kernel
theorem dX9_suspectsOf_41 : decode cX9_suspectsOf 41 = .ok (.iload_n 3, 1) := by decide +kernel
theorem dX9_suspectsOf_42 : decode cX9_suspectsOf 42 = .ok (.iconst 1, 1) := by decide +kernel
theorem dX9_suspectsOf_43 : decode cX9_suspectsOf 43 = .ok (.aload_n 0, 1) := by decide +kernel
theorem dX9_suspectsOf_44 : decode cX9_suspectsOf 44 = .ok (.getfield 20, 3) := by decide +kernel
theorem dX9_suspectsOf_47 : decode cX9_suspectsOf 47 = .ok (.iload_n 1, 1) := by decide +kernel
theorem dX9_suspectsOf_48 : decode cX9_suspectsOf 48 = .ok (.aaload, 1) := by decide +kernel
theorem dX9_suspectsOf_49 : decode cX9_suspectsOf 49 = .ok (.iload 4, 2) := by decide +kernel
theorem dX9_suspectsOf_51 : decode cX9_suspectsOf 51 = .ok (.iaload, 1) := by decide +kernel
theorem dX9_suspectsOf_52 : decode cX9_suspectsOf 52 = .ok (.ishl, 1) := by decide +kernel
theorem dX9_suspectsOf_53 : decode cX9_suspectsOf 53 = .ok (.ior, 1) := by decide +kernel
theorem dX9_suspectsOf_54 : decode cX9_suspectsOf 54 = .ok (.istore_n 3, 1) := by decide +kernel
theorem dX9_suspectsOf_55 : decode cX9_suspectsOf 55 = .ok (.iinc 4 1, 3) := by decide +kernel
theorem dX9_suspectsOf_58 : decode cX9_suspectsOf 58 = .ok (.goto (-23), 3) := by decide +kernel
theorem dX9_suspectsOf_61 : decode cX9_suspectsOf 61 = .ok (.iload_n 3, 1) := by decide +kernel
theorem dX9_suspectsOf_62 : decode cX9_suspectsOf 62 = .ok (.ireturn, 1) := by decide +kernel
theorem dX9_fewestBlamed_0 : decode cX9_fewestBlamed 0 = .ok (.iconst 0, 1) := by decide +kernel
theorem dX9_fewestBlamed_1 : decode cX9_fewestBlamed 1 = .ok (.istore_n 1, 1) := by decide +kernel
theorem dX9_fewestBlamed_2 : decode cX9_fewestBlamed 2 = .ok (.iload_n 1, 1) := by decide +kernel
theorem dX9_fewestBlamed_3 : decode cX9_fewestBlamed 3 = .ok (.aload_n 0, 1) := by decide +kernel
theorem dX9_fewestBlamed_4 : decode cX9_fewestBlamed 4 = .ok (.getfield 26, 3) := by decide +kernel
theorem dX9_fewestBlamed_7 : decode cX9_fewestBlamed 7 = .ok (.if_icmp .ge 20, 3) := by decide +kernel
theorem dX9_fewestBlamed_10 : decode cX9_fewestBlamed 10 = .ok (.aload_n 0, 1) := by decide +kernel
theorem dX9_fewestBlamed_11 : decode cX9_fewestBlamed 11 = .ok (.getfield 23, 3) := by decide +kernel
theorem dX9_fewestBlamed_14 : decode cX9_fewestBlamed 14 = .ok (.iload_n 1, 1) := by decide +kernel
theorem dX9_fewestBlamed_15 : decode cX9_fewestBlamed 15 = .ok (.aload_n 0, 1) := by decide +kernel
theorem dX9_fewestBlamed_16 : decode cX9_fewestBlamed 16 = .ok (.iload_n 1, 1) := by decide +kernel
theorem dX9_fewestBlamed_17 : decode cX9_fewestBlamed 17 = .ok (.invokevirtual 53, 3) := by decide +kernel
theorem dX9_fewestBlamed_20 : decode cX9_fewestBlamed 20 = .ok (.iastore, 1) := by decide +kernel
theorem dX9_fewestBlamed_21 : decode cX9_fewestBlamed 21 = .ok (.iinc 1 1, 3) := by decide +kernel
theorem dX9_fewestBlamed_24 : decode cX9_fewestBlamed 24 = .ok (.goto (-22), 3) := by decide +kernel
theorem dX9_fewestBlamed_27 : decode cX9_fewestBlamed 27 = .ok (.sipush 255, 3) := by decide +kernel
theorem dX9_fewestBlamed_30 : decode cX9_fewestBlamed 30 = .ok (.istore_n 1, 1) := by decide +kernel
theorem dX9_fewestBlamed_31 : decode cX9_fewestBlamed 31 = .ok (.iload_n 1, 1) := by decide +kernel
theorem dX9_fewestBlamed_32 : decode cX9_fewestBlamed 32 = .ok (.istore_n 2, 1) := by decide +kernel
theorem dX9_fewestBlamed_33 : decode cX9_fewestBlamed 33 = .ok (.iconst 0, 1) := by decide +kernel
theorem dX9_fewestBlamed_34 : decode cX9_fewestBlamed 34 = .ok (.istore_n 3, 1) := by decide +kernel
theorem dX9_fewestBlamed_35 : decode cX9_fewestBlamed 35 = .ok (.iload_n 3, 1) := by decide +kernel
theorem dX9_fewestBlamed_36 : decode cX9_fewestBlamed 36 = .ok (.iload_n 1, 1) := by decide +kernel
theorem dX9_fewestBlamed_37 : decode cX9_fewestBlamed 37 = .ok (.if_icmp .ge 30, 3) := by decide +kernel
theorem dX9_fewestBlamed_40 : decode cX9_fewestBlamed 40 = .ok (.iload_n 3, 1) := by decide +kernel
theorem dX9_fewestBlamed_41 : decode cX9_fewestBlamed 41 = .ok (.invokestatic 56, 3) := by decide +kernel
theorem dX9_fewestBlamed_44 : decode cX9_fewestBlamed 44 = .ok (.iload_n 2, 1) := by decide +kernel
theorem dX9_fewestBlamed_45 : decode cX9_fewestBlamed 45 = .ok (.invokestatic 56, 3) := by decide +kernel
theorem dX9_fewestBlamed_48 : decode cX9_fewestBlamed 48 = .ok (.if_icmp .ge 13, 3) := by decide +kernel
theorem dX9_fewestBlamed_51 : decode cX9_fewestBlamed 51 = .ok (.aload_n 0, 1) := by decide +kernel
theorem dX9_fewestBlamed_52 : decode cX9_fewestBlamed 52 = .ok (.iload_n 3, 1) := by decide +kernel
theorem dX9_fewestBlamed_53 : decode cX9_fewestBlamed 53 = .ok (.invokevirtual 61, 3) := by decide +kernel
theorem dX9_fewestBlamed_56 : decode cX9_fewestBlamed 56 = .ok (.ifCond .eq 5, 3) := by decide +kernel
theorem dX9_fewestBlamed_59 : decode cX9_fewestBlamed 59 = .ok (.iload_n 3, 1) := by decide +kernel
theorem dX9_fewestBlamed_60 : decode cX9_fewestBlamed 60 = .ok (.istore_n 2, 1) := by decide +kernel
theorem dX9_fewestBlamed_61 : decode cX9_fewestBlamed 61 = .ok (.iinc 3 1, 3) := by decide +kernel
theorem dX9_fewestBlamed_64 : decode cX9_fewestBlamed 64 = .ok (.goto (-29), 3) := by decide +kernel
theorem dX9_fewestBlamed_67 : decode cX9_fewestBlamed 67 = .ok (.iload_n 2, 1) := by decide +kernel
theorem dX9_fewestBlamed_68 : decode cX9_fewestBlamed 68 = .ok (.ireturn, 1) := by decide +kernel
theorem dX9_explainsAll_0 : decode cX9_explainsAll 0 = .ok (.iconst 0, 1) := by decide +kernel
theorem dX9_explainsAll_1 : decode cX9_explainsAll 1 = .ok (.istore_n 2, 1) := by decide +kernel
theorem dX9_explainsAll_2 : decode cX9_explainsAll 2 = .ok (.iload_n 2, 1) := by decide +kernel
theorem dX9_explainsAll_3 : decode cX9_explainsAll 3 = .ok (.aload_n 0, 1) := by decide +kernel
theorem dX9_explainsAll_4 : decode cX9_explainsAll 4 = .ok (.getfield 26, 3) := by decide +kernel
theorem dX9_explainsAll_7 : decode cX9_explainsAll 7 = .ok (.if_icmp .ge 31, 3) := by decide +kernel
theorem dX9_explainsAll_10 : decode cX9_explainsAll 10 = .ok (.aload_n 0, 1) := by decide +kernel
theorem dX9_explainsAll_11 : decode cX9_explainsAll 11 = .ok (.getfield 23, 3) := by decide +kernel
theorem dX9_explainsAll_14 : decode cX9_explainsAll 14 = .ok (.iload_n 2, 1) := by decide +kernel
theorem dX9_explainsAll_15 : decode cX9_explainsAll 15 = .ok (.iaload, 1) := by decide +kernel
theorem dX9_explainsAll_16 : decode cX9_explainsAll 16 = .ok (.ifCond .eq 16, 3) := by decide +kernel
theorem dX9_explainsAll_19 : decode cX9_explainsAll 19 = .ok (.aload_n 0, 1) := by decide +kernel
theorem dX9_explainsAll_20 : decode cX9_explainsAll 20 = .ok (.getfield 23, 3) := by decide +kernel
theorem dX9_explainsAll_23 : decode cX9_explainsAll 23 = .ok (.iload_n 2, 1) := by decide +kernel
theorem dX9_explainsAll_24 : decode cX9_explainsAll 24 = .ok (.iaload, 1) := by decide +kernel
theorem dX9_explainsAll_25 : decode cX9_explainsAll 25 = .ok (.iload_n 1, 1) := by decide +kernel
theorem dX9_explainsAll_26 : decode cX9_explainsAll 26 = .ok (.iand, 1) := by decide +kernel
theorem dX9_explainsAll_27 : decode cX9_explainsAll 27 = .ok (.ifCond .ne 5, 3) := by decide +kernel
theorem dX9_explainsAll_30 : decode cX9_explainsAll 30 = .ok (.iconst 0, 1) := by decide +kernel
theorem dX9_explainsAll_31 : decode cX9_explainsAll 31 = .ok (.ireturn, 1) := by decide +kernel
theorem dX9_explainsAll_32 : decode cX9_explainsAll 32 = .ok (.iinc 2 1, 3) := by decide +kernel
theorem dX9_explainsAll_35 : decode cX9_explainsAll 35 = .ok (.goto (-33), 3) := by decide +kernel
theorem dX9_explainsAll_38 : decode cX9_explainsAll 38 = .ok (.iconst 1, 1) := by decide +kernel
theorem dX9_explainsAll_39 : decode cX9_explainsAll 39 = .ok (.ireturn, 1) := by decide +kernel
theorem dX10_init_0 : decode cX10_init 0 = .ok (.aload_n 0, 1) := by decide +kernel
theorem dX10_init_1 : decode cX10_init 1 = .ok (.invokespecial 3, 3) := by decide +kernel
theorem dX10_init_4 : decode cX10_init 4 = .ok (.aload_n 0, 1) := by decide +kernel
theorem dX10_init_5 : decode cX10_init 5 = .ok (.sipush 160, 3) := by decide +kernel
theorem dX10_init_8 : decode cX10_init 8 = .ok (.newarray .char, 2) := by decide +kernel
theorem dX10_init_10 : decode cX10_init 10 = .ok (.putfield 9, 3) := by decide +kernel
theorem dX10_init_13 : decode cX10_init 13 = .ok (.return_, 1) := by decide +kernel
theorem dX10_append_0 : decode cX10_append 0 = .ok (.iconst 0, 1) := by decide +kernel
theorem dX10_append_1 : decode cX10_append 1 = .ok (.istore 4, 2) := by decide +kernel
theorem dX10_append_3 : decode cX10_append 3 = .ok (.iload 4, 2) := by decide +kernel
theorem dX10_append_5 : decode cX10_append 5 = .ok (.iload_n 3, 1) := by decide +kernel
theorem dX10_append_6 : decode cX10_append 6 = .ok (.if_icmp .ge 28, 3) := by decide +kernel
theorem dX10_append_9 : decode cX10_append 9 = .ok (.aload_n 0, 1) := by decide +kernel
theorem dX10_append_10 : decode cX10_append 10 = .ok (.getfield 9, 3) := by decide +kernel
theorem dX10_append_13 : decode cX10_append 13 = .ok (.aload_n 0, 1) := by decide +kernel
theorem dX10_append_14 : decode cX10_append 14 = .ok (.getfield 15, 3) := by decide +kernel
theorem dX10_append_17 : decode cX10_append 17 = .ok (.iload 4, 2) := by decide +kernel
theorem dX10_append_19 : decode cX10_append 19 = .ok (.iadd, 1) := by decide +kernel
theorem dX10_append_20 : decode cX10_append 20 = .ok (.lload_n 1, 1) := by decide +kernel
theorem dX10_append_21 : decode cX10_append 21 = .ok (.iload 4, 2) := by decide +kernel
theorem dX10_append_23 : decode cX10_append 23 = .ok (.invokestatic 19, 3) := by decide +kernel
theorem dX10_append_26 : decode cX10_append 26 = .ok (.i2c, 1) := by decide +kernel
theorem dX10_append_27 : decode cX10_append 27 = .ok (.castore, 1) := by decide +kernel
theorem dX10_append_28 : decode cX10_append 28 = .ok (.iinc 4 1, 3) := by decide +kernel
theorem dX10_append_31 : decode cX10_append 31 = .ok (.goto (-28), 3) := by decide +kernel
theorem dX10_append_34 : decode cX10_append 34 = .ok (.aload_n 0, 1) := by decide +kernel
theorem dX10_append_35 : decode cX10_append 35 = .ok (.dup, 1) := by decide +kernel
theorem dX10_append_36 : decode cX10_append 36 = .ok (.getfield 15, 3) := by decide +kernel
theorem dX10_append_39 : decode cX10_append 39 = .ok (.iload_n 3, 1) := by decide +kernel
theorem dX10_append_40 : decode cX10_append 40 = .ok (.iadd, 1) := by decide +kernel
theorem dX10_append_41 : decode cX10_append 41 = .ok (.putfield 15, 3) := by decide +kernel
theorem dX10_append_44 : decode cX10_append 44 = .ok (.aload_n 0, 1) := by decide +kernel
theorem dX10_append_45 : decode cX10_append 45 = .ok (.getfield 15, 3) := by decide +kernel
theorem dX10_append_48 : decode cX10_append 48 = .ok (.ireturn, 1) := by decide +kernel
theorem dX10_readInto_0 : decode cX10_readInto 0 = .ok (.aload_n 1, 1) := by decide +kernel
theorem dX10_readInto_1 : decode cX10_readInto 1 = .ok (.invokevirtual 23, 3) := by decide +kernel
theorem dX10_readInto_4 : decode cX10_readInto 4 = .ok (.aload_n 0, 1) := by decide +kernel
theorem dX10_readInto_5 : decode cX10_readInto 5 = .ok (.iconst 0, 1) := by decide +kernel
theorem dX10_readInto_6 : decode cX10_readInto 6 = .ok (.putfield 28, 3) := by decide +kernel
theorem dX10_readInto_9 : decode cX10_readInto 9 = .ok (.aload_n 0, 1) := by decide +kernel
theorem dX10_readInto_10 : decode cX10_readInto 10 = .ok (.invokevirtual 31, 3) := by decide +kernel
theorem dX10_readInto_13 : decode cX10_readInto 13 = .ok (.iconst 1, 1) := by decide +kernel
theorem dX10_readInto_14 : decode cX10_readInto 14 = .ok (.istore_n 2, 1) := by decide +kernel
theorem dX10_readInto_15 : decode cX10_readInto 15 = .ok (.iload_n 2, 1) := by decide +kernel
theorem dX10_readInto_16 : decode cX10_readInto 16 = .ok (.bipush 10, 2) := by decide +kernel
theorem dX10_readInto_18 : decode cX10_readInto 18 = .ok (.if_icmp .gt 64, 3) := by decide +kernel
theorem dX10_readInto_21 : decode cX10_readInto 21 = .ok (.aload_n 0, 1) := by decide +kernel
theorem dX10_readInto_22 : decode cX10_readInto 22 = .ok (.aload_n 1, 1) := by decide +kernel
theorem dX10_readInto_23 : decode cX10_readInto 23 = .ok (.invokevirtual 34, 3) := by decide +kernel
theorem dX10_readInto_26 : decode cX10_readInto 26 = .ok (.ifCond .ne 8, 3) := by decide +kernel
theorem dX10_readInto_29 : decode cX10_readInto 29 = .ok (.aload_n 0, 1) := by decide +kernel
theorem dX10_readInto_30 : decode cX10_readInto 30 = .ok (.getfield 38, 3) := by decide +kernel
theorem dX10_readInto_33 : decode cX10_readInto 33 = .ok (.ireturn, 1) := by decide +kernel
theorem dX10_readInto_34 : decode cX10_readInto 34 = .ok (.aload_n 0, 1) := by decide +kernel
theorem dX10_readInto_35 : decode cX10_readInto 35 = .ok (.getfield 38, 3) := by decide +kernel
theorem dX10_readInto_38 : decode cX10_readInto 38 = .ok (.aload_n 0, 1) := by decide +kernel
theorem dX10_readInto_39 : decode cX10_readInto 39 = .ok (.getfield 15, 3) := by decide +kernel
theorem dX10_readInto_42 : decode cX10_readInto 42 = .ok (.if_icmp .ne 5, 3) := by decide +kernel
theorem dX10_readInto_45 : decode cX10_readInto 45 = .ok (.iconst (-1), 1) := by decide +kernel
theorem dX10_readInto_46 : decode cX10_readInto 46 = .ok (.ireturn, 1) := by decide +kernel
theorem dX10_readInto_47 : decode cX10_readInto 47 = .ok (.aload_n 0, 1) := by decide +kernel
theorem dX10_readInto_48 : decode cX10_readInto 48 = .ok (.getfield 9, 3) := by decide +kernel
theorem dX10_readInto_51 : decode cX10_readInto 51 = .ok (.aload_n 0, 1) := by decide +kernel
theorem dX10_readInto_52 : decode cX10_readInto 52 = .ok (.getfield 38, 3) := by decide +kernel
theorem dX10_readInto_55 : decode cX10_readInto 55 = .ok (.caload, 1) := by decide +kernel
theorem dX10_readInto_56 : decode cX10_readInto 56 = .ok (.bipush 59, 2) := by decide +kernel
theorem dX10_readInto_58 : decode cX10_readInto 58 = .ok (.if_icmp .ne 9, 3) := by decide +kernel
theorem dX10_readInto_61 : decode cX10_readInto 61 = .ok (.iload_n 2, 1) := by decide +kernel
theorem dX10_readInto_62 : decode cX10_readInto 62 = .ok (.bipush 10, 2) := by decide +kernel
theorem dX10_readInto_64 : decode cX10_readInto 64 = .ok (.if_icmp .ne 8, 3) := by decide +kernel
theorem dX10_readInto_67 : decode cX10_readInto 67 = .ok (.aload_n 0, 1) := by decide +kernel
theorem dX10_readInto_68 : decode cX10_readInto 68 = .ok (.getfield 38, 3) := by decide +kernel
theorem dX10_readInto_71 : decode cX10_readInto 71 = .ok (.ireturn, 1) := by decide +kernel
theorem dX10_readInto_72 : decode cX10_readInto 72 = .ok (.aload_n 0, 1) := by decide +kernel
theorem dX10_readInto_73 : decode cX10_readInto 73 = .ok (.invokevirtual 31, 3) := by decide +kernel
theorem dX10_readInto_76 : decode cX10_readInto 76 = .ok (.iinc 2 1, 3) := by decide +kernel
theorem dX10_readInto_79 : decode cX10_readInto 79 = .ok (.goto (-64), 3) := by decide +kernel
theorem dX10_readInto_82 : decode cX10_readInto 82 = .ok (.aload_n 0, 1) := by decide +kernel
theorem dX10_readInto_83 : decode cX10_readInto 83 = .ok (.getfield 38, 3) := by decide +kernel
theorem dX10_readInto_86 : decode cX10_readInto 86 = .ok (.ireturn, 1) := by decide +kernel
theorem dX10_readsLine_0 : decode cX10_readsLine 0 = .ok (.aload_n 0, 1) := by decide +kernel
theorem dX10_readsLine_1 : decode cX10_readsLine 1 = .ok (.ldc 41, 2) := by decide +kernel
theorem dX10_readsLine_3 : decode cX10_readsLine 3 = .ok (.invokevirtual 43, 3) := by decide +kernel
theorem dX10_readsLine_6 : decode cX10_readsLine 6 = .ok (.ifCond .eq 9, 3) := by decide +kernel
theorem dX10_readsLine_9 : decode cX10_readsLine 9 = .ok (.aload_n 0, 1) := by decide +kernel
theorem dX10_readsLine_10 : decode cX10_readsLine 10 = .ok (.aload_n 1, 1) := by decide +kernel
theorem dX10_readsLine_11 : decode cX10_readsLine 11 = .ok (.invokevirtual 47, 3) := by decide +kernel
theorem dX10_readsLine_14 : decode cX10_readsLine 14 = .ok (.ireturn, 1) := by decide +kernel
theorem dX10_readsLine_15 : decode cX10_readsLine 15 = .ok (.aload_n 0, 1) := by decide +kernel
theorem dX10_readsLine_16 : decode cX10_readsLine 16 = .ok (.ldc 50, 2) := by decide +kernel
theorem dX10_readsLine_18 : decode cX10_readsLine 18 = .ok (.invokevirtual 43, 3) := by decide +kernel
theorem dX10_readsLine_21 : decode cX10_readsLine 21 = .ok (.ifCond .eq 9, 3) := by decide +kernel
theorem dX10_readsLine_24 : decode cX10_readsLine 24 = .ok (.aload_n 0, 1) := by decide +kernel
theorem dX10_readsLine_25 : decode cX10_readsLine 25 = .ok (.aload_n 1, 1) := by decide +kernel
theorem dX10_readsLine_26 : decode cX10_readsLine 26 = .ok (.invokevirtual 52, 3) := by decide +kernel
theorem dX10_readsLine_29 : decode cX10_readsLine 29 = .ok (.ireturn, 1) := by decide +kernel
theorem dX10_readsLine_30 : decode cX10_readsLine 30 = .ok (.aload_n 0, 1) := by decide +kernel
theorem dX10_readsLine_31 : decode cX10_readsLine 31 = .ok (.ldc 55, 2) := by decide +kernel
theorem dX10_readsLine_33 : decode cX10_readsLine 33 = .ok (.invokevirtual 43, 3) := by decide +kernel
theorem dX10_readsLine_36 : decode cX10_readsLine 36 = .ok (.ifCond .eq 9, 3) := by decide +kernel
theorem dX10_readsLine_39 : decode cX10_readsLine 39 = .ok (.aload_n 0, 1) := by decide +kernel
theorem dX10_readsLine_40 : decode cX10_readsLine 40 = .ok (.aload_n 1, 1) := by decide +kernel
theorem dX10_readsLine_41 : decode cX10_readsLine 41 = .ok (.invokevirtual 57, 3) := by decide +kernel
theorem dX10_readsLine_44 : decode cX10_readsLine 44 = .ok (.ireturn, 1) := by decide +kernel
theorem dX10_readsLine_45 : decode cX10_readsLine 45 = .ok (.aload_n 0, 1) := by decide +kernel
theorem dX10_readsLine_46 : decode cX10_readsLine 46 = .ok (.ldc 60, 2) := by decide +kernel
theorem dX10_readsLine_48 : decode cX10_readsLine 48 = .ok (.invokevirtual 43, 3) := by decide +kernel
theorem dX10_readsLine_51 : decode cX10_readsLine 51 = .ok (.ifCond .eq 9, 3) := by decide +kernel
theorem dX10_readsLine_54 : decode cX10_readsLine 54 = .ok (.aload_n 0, 1) := by decide +kernel
theorem dX10_readsLine_55 : decode cX10_readsLine 55 = .ok (.aload_n 1, 1) := by decide +kernel
theorem dX10_readsLine_56 : decode cX10_readsLine 56 = .ok (.invokevirtual 62, 3) := by decide +kernel
theorem dX10_readsLine_59 : decode cX10_readsLine 59 = .ok (.ireturn, 1) := by decide +kernel
theorem dX10_readsLine_60 : decode cX10_readsLine 60 = .ok (.aload_n 0, 1) := by decide +kernel
theorem dX10_readsLine_61 : decode cX10_readsLine 61 = .ok (.ldc 65, 2) := by decide +kernel
theorem dX10_readsLine_63 : decode cX10_readsLine 63 = .ok (.invokevirtual 43, 3) := by decide +kernel
theorem dX10_readsLine_66 : decode cX10_readsLine 66 = .ok (.ifCond .eq 9, 3) := by decide +kernel
theorem dX10_readsLine_69 : decode cX10_readsLine 69 = .ok (.aload_n 0, 1) := by decide +kernel
theorem dX10_readsLine_70 : decode cX10_readsLine 70 = .ok (.aload_n 1, 1) := by decide +kernel
theorem dX10_readsLine_71 : decode cX10_readsLine 71 = .ok (.invokevirtual 67, 3) := by decide +kernel
theorem dX10_readsLine_74 : decode cX10_readsLine 74 = .ok (.ireturn, 1) := by decide +kernel
theorem dX10_readsLine_75 : decode cX10_readsLine 75 = .ok (.aload_n 0, 1) := by decide +kernel
theorem dX10_readsLine_76 : decode cX10_readsLine 76 = .ok (.ldc 70, 2) := by decide +kernel
theorem dX10_readsLine_78 : decode cX10_readsLine 78 = .ok (.invokevirtual 43, 3) := by decide +kernel
theorem dX10_readsLine_81 : decode cX10_readsLine 81 = .ok (.ifCond .eq 15, 3) := by decide +kernel
theorem dX10_readsLine_84 : decode cX10_readsLine 84 = .ok (.aload_n 0, 1) := by decide +kernel
theorem dX10_readsLine_85 : decode cX10_readsLine 85 = .ok (.aload_n 1, 1) := by decide +kernel
theorem dX10_readsLine_86 : decode cX10_readsLine 86 = .ok (.invokevirtual 72, 3) := by decide +kernel
theorem dX10_readsLine_89 : decode cX10_readsLine 89 = .ok (.ifCond .eq 7, 3) := by decide +kernel
theorem dX10_readsLine_92 : decode cX10_readsLine 92 = .ok (.iconst 1, 1) := by decide +kernel
theorem dX10_readsLine_93 : decode cX10_readsLine 93 = .ok (.goto 4, 3) := by decide +kernel
theorem dX10_readsLine_96 : decode cX10_readsLine 96 = .ok (.iconst 0, 1) := by decide +kernel
theorem dX10_readsLine_97 : decode cX10_readsLine 97 = .ok (.ireturn, 1) := by decide +kernel
theorem dX10_readsRank_0 : decode cX10_readsRank 0 = .ok (.aload_n 0, 1) := by decide +kernel
theorem dX10_readsRank_1 : decode cX10_readsRank 1 = .ok (.invokevirtual 75, 3) := by decide +kernel
theorem dX10_readsRank_4 : decode cX10_readsRank 4 = .ok (.ifCond .eq 12, 3) := by decide +kernel
theorem dX10_readsRank_7 : decode cX10_readsRank 7 = .ok (.aload_n 0, 1) := by decide +kernel
theorem dX10_readsRank_8 : decode cX10_readsRank 8 = .ok (.bipush 9, 2) := by decide +kernel
theorem dX10_readsRank_10 : decode cX10_readsRank 10 = .ok (.invokevirtual 79, 3) := by decide +kernel
theorem dX10_readsRank_13 : decode cX10_readsRank 13 = .ok (.ifCond .ne 5, 3) := by decide +kernel
theorem dX10_readsRank_16 : decode cX10_readsRank 16 = .ok (.iconst 0, 1) := by decide +kernel
theorem dX10_readsRank_17 : decode cX10_readsRank 17 = .ok (.ireturn, 1) := by decide +kernel
theorem dX10_readsRank_18 : decode cX10_readsRank 18 = .ok (.aload_n 1, 1) := by decide +kernel
theorem dX10_readsRank_19 : decode cX10_readsRank 19 = .ok (.getfield 83, 3) := by decide +kernel
theorem dX10_readsRank_22 : decode cX10_readsRank 22 = .ok (.aload_n 0, 1) := by decide +kernel
theorem dX10_readsRank_23 : decode cX10_readsRank 23 = .ok (.getfield 87, 3) := by decide +kernel
theorem dX10_readsRank_26 : decode cX10_readsRank 26 = .ok (.aload_n 0, 1) := by decide +kernel
theorem dX10_readsRank_27 : decode cX10_readsRank 27 = .ok (.getfield 90, 3) := by decide +kernel
theorem dX10_readsRank_30 : decode cX10_readsRank 30 = .ok (.iastore, 1) := by decide +kernel
theorem dX10_readsRank_31 : decode cX10_readsRank 31 = .ok (.iconst 1, 1) := by decide +kernel
theorem dX10_readsRank_32 : decode cX10_readsRank 32 = .ok (.ireturn, 1) := by decide +kernel
theorem dX10_readsPay_0 : decode cX10_readsPay 0 = .ok (.aload_n 0, 1) := by decide +kernel
theorem dX10_readsPay_1 : decode cX10_readsPay 1 = .ok (.invokevirtual 75, 3) := by decide +kernel
theorem dX10_readsPay_4 : decode cX10_readsPay 4 = .ok (.ifCond .eq 12, 3) := by decide +kernel
theorem dX10_readsPay_7 : decode cX10_readsPay 7 = .ok (.aload_n 0, 1) := by decide +kernel
theorem dX10_readsPay_8 : decode cX10_readsPay 8 = .ok (.bipush 99, 2) := by decide +kernel
theorem dX10_readsPay_10 : decode cX10_readsPay 10 = .ok (.invokevirtual 79, 3) := by decide +kernel
theorem dX10_readsPay_13 : decode cX10_readsPay 13 = .ok (.ifCond .ne 5, 3) := by decide +kernel
theorem dX10_readsPay_16 : decode cX10_readsPay 16 = .ok (.iconst 0, 1) := by decide +kernel
theorem dX10_readsPay_17 : decode cX10_readsPay 17 = .ok (.ireturn, 1) := by decide +kernel
theorem dX10_readsPay_18 : decode cX10_readsPay 18 = .ok (.aload_n 1, 1) := by decide +kernel
theorem dX10_readsPay_19 : decode cX10_readsPay 19 = .ok (.getfield 93, 3) := by decide +kernel
theorem dX10_readsPay_22 : decode cX10_readsPay 22 = .ok (.aload_n 0, 1) := by decide +kernel
theorem dX10_readsPay_23 : decode cX10_readsPay 23 = .ok (.getfield 87, 3) := by decide +kernel
theorem dX10_readsPay_26 : decode cX10_readsPay 26 = .ok (.aload_n 0, 1) := by decide +kernel
theorem dX10_readsPay_27 : decode cX10_readsPay 27 = .ok (.getfield 90, 3) := by decide +kernel
theorem dX10_readsPay_30 : decode cX10_readsPay 30 = .ok (.iastore, 1) := by decide +kernel
theorem dX10_readsPay_31 : decode cX10_readsPay 31 = .ok (.iconst 1, 1) := by decide +kernel
theorem dX10_readsPay_32 : decode cX10_readsPay 32 = .ok (.ireturn, 1) := by decide +kernel
theorem dX10_readsNight_0 : decode cX10_readsNight 0 = .ok (.aload_n 0, 1) := by decide +kernel
theorem dX10_readsNight_1 : decode cX10_readsNight 1 = .ok (.bipush 23, 2) := by decide +kernel
theorem dX10_readsNight_3 : decode cX10_readsNight 3 = .ok (.invokevirtual 79, 3) := by decide +kernel
theorem dX10_readsNight_6 : decode cX10_readsNight 6 = .ok (.ifCond .ne 5, 3) := by decide +kernel
theorem dX10_readsNight_9 : decode cX10_readsNight 9 = .ok (.iconst 0, 1) := by decide +kernel
theorem dX10_readsNight_10 : decode cX10_readsNight 10 = .ok (.ireturn, 1) := by decide +kernel
theorem dX10_readsNight_11 : decode cX10_readsNight 11 = .ok (.aload_n 0, 1) := by decide +kernel
theorem dX10_readsNight_12 : decode cX10_readsNight 12 = .ok (.getfield 90, 3) := by decide +kernel
theorem dX10_readsNight_15 : decode cX10_readsNight 15 = .ok (.istore_n 2, 1) := by decide +kernel
theorem dX10_readsNight_16 : decode cX10_readsNight 16 = .ok (.aload_n 0, 1) := by decide +kernel
theorem dX10_readsNight_17 : decode cX10_readsNight 17 = .ok (.ldc 96, 2) := by decide +kernel
theorem dX10_readsNight_19 : decode cX10_readsNight 19 = .ok (.invokevirtual 43, 3) := by decide +kernel
theorem dX10_readsNight_22 : decode cX10_readsNight 22 = .ok (.ifCond .eq 12, 3) := by decide +kernel
theorem dX10_readsNight_25 : decode cX10_readsNight 25 = .ok (.aload_n 0, 1) := by decide +kernel
theorem dX10_readsNight_26 : decode cX10_readsNight 26 = .ok (.bipush 23, 2) := by decide +kernel
theorem dX10_readsNight_28 : decode cX10_readsNight 28 = .ok (.invokevirtual 79, 3) := by decide +kernel
theorem dX10_readsNight_31 : decode cX10_readsNight 31 = .ok (.ifCond .ne 5, 3) := by decide +kernel
theorem dX10_readsNight_34 : decode cX10_readsNight 34 = .ok (.iconst 0, 1) := by decide +kernel
theorem dX10_readsNight_35 : decode cX10_readsNight 35 = .ok (.ireturn, 1) := by decide +kernel
theorem dX10_readsNight_36 : decode cX10_readsNight 36 = .ok (.aload_n 1, 1) := by decide +kernel
theorem dX10_readsNight_37 : decode cX10_readsNight 37 = .ok (.iload_n 2, 1) := by decide +kernel
theorem dX10_readsNight_38 : decode cX10_readsNight 38 = .ok (.putfield 98, 3) := by decide +kernel
theorem dX10_readsNight_41 : decode cX10_readsNight 41 = .ok (.aload_n 1, 1) := by decide +kernel
theorem dX10_readsNight_42 : decode cX10_readsNight 42 = .ok (.aload_n 0, 1) := by decide +kernel
theorem dX10_readsNight_43 : decode cX10_readsNight 43 = .ok (.getfield 90, 3) := by decide +kernel
theorem dX10_readsNight_46 : decode cX10_readsNight 46 = .ok (.putfield 101, 3) := by decide +kernel
theorem dX10_readsNight_49 : decode cX10_readsNight 49 = .ok (.iconst 1, 1) := by decide +kernel
theorem dX10_readsNight_50 : decode cX10_readsNight 50 = .ok (.ireturn, 1) := by decide +kernel
theorem dX10_readsRepeat_0 : decode cX10_readsRepeat 0 = .ok (.aload_n 0, 1) := by decide +kernel
theorem dX10_readsRepeat_1 : decode cX10_readsRepeat 1 = .ok (.invokevirtual 75, 3) := by decide +kernel
theorem dX10_readsRepeat_4 : decode cX10_readsRepeat 4 = .ok (.ifCond .ne 5, 3) := by decide +kernel
theorem dX10_readsRepeat_7 : decode cX10_readsRepeat 7 = .ok (.iconst 0, 1) := by decide +kernel
theorem dX10_readsRepeat_8 : decode cX10_readsRepeat 8 = .ok (.ireturn, 1) := by decide +kernel
theorem dX10_readsRepeat_9 : decode cX10_readsRepeat 9 = .ok (.aload_n 1, 1) := by decide +kernel
theorem dX10_readsRepeat_10 : decode cX10_readsRepeat 10 = .ok (.dup, 1) := by decide +kernel
theorem dX10_readsRepeat_11 : decode cX10_readsRepeat 11 = .ok (.getfield 104, 3) := by decide +kernel
theorem dX10_readsRepeat_14 : decode cX10_readsRepeat 14 = .ok (.iconst 1, 1) := by decide +kernel
theorem dX10_readsRepeat_15 : decode cX10_readsRepeat 15 = .ok (.aload_n 0, 1) := by decide +kernel
theorem dX10_readsRepeat_16 : decode cX10_readsRepeat 16 = .ok (.getfield 87, 3) := by decide +kernel
theorem dX10_readsRepeat_19 : decode cX10_readsRepeat 19 = .ok (.ishl, 1) := by decide +kernel
theorem dX10_readsRepeat_20 : decode cX10_readsRepeat 20 = .ok (.ior, 1) := by decide +kernel
theorem dX10_readsRepeat_21 : decode cX10_readsRepeat 21 = .ok (.putfield 104, 3) := by decide +kernel
theorem dX10_readsRepeat_24 : decode cX10_readsRepeat 24 = .ok (.iconst 1, 1) := by decide +kernel
theorem dX10_readsRepeat_25 : decode cX10_readsRepeat 25 = .ok (.ireturn, 1) := by decide +kernel
theorem dX10_readsLeast_0 : decode cX10_readsLeast 0 = .ok (.aload_n 0, 1) := by decide +kernel
theorem dX10_readsLeast_1 : decode cX10_readsLeast 1 = .ok (.bipush 99, 2) := by decide +kernel
theorem dX10_readsLeast_3 : decode cX10_readsLeast 3 = .ok (.invokevirtual 79, 3) := by decide +kernel
theorem dX10_readsLeast_6 : decode cX10_readsLeast 6 = .ok (.ifCond .ne 5, 3) := by decide +kernel
theorem dX10_readsLeast_9 : decode cX10_readsLeast 9 = .ok (.iconst 0, 1) := by decide +kernel
theorem dX10_readsLeast_10 : decode cX10_readsLeast 10 = .ok (.ireturn, 1) := by decide +kernel
theorem dX10_readsLeast_11 : decode cX10_readsLeast 11 = .ok (.aload_n 1, 1) := by decide +kernel
theorem dX10_readsLeast_12 : decode cX10_readsLeast 12 = .ok (.aload_n 0, 1) := by decide +kernel
theorem dX10_readsLeast_13 : decode cX10_readsLeast 13 = .ok (.getfield 90, 3) := by decide +kernel
theorem dX10_readsLeast_16 : decode cX10_readsLeast 16 = .ok (.putfield 107, 3) := by decide +kernel
theorem dX10_readsLeast_19 : decode cX10_readsLeast 19 = .ok (.iconst 1, 1) := by decide +kernel
theorem dX10_readsLeast_20 : decode cX10_readsLeast 20 = .ok (.ireturn, 1) := by decide +kernel
theorem dX10_readsBack_0 : decode cX10_readsBack 0 = .ok (.aload_n 0, 1) := by decide +kernel
theorem dX10_readsBack_1 : decode cX10_readsBack 1 = .ok (.bipush 99, 2) := by decide +kernel
theorem dX10_readsBack_3 : decode cX10_readsBack 3 = .ok (.invokevirtual 79, 3) := by decide +kernel
theorem dX10_readsBack_6 : decode cX10_readsBack 6 = .ok (.ifCond .ne 5, 3) := by decide +kernel
theorem dX10_readsBack_9 : decode cX10_readsBack 9 = .ok (.iconst 0, 1) := by decide +kernel
theorem dX10_readsBack_10 : decode cX10_readsBack 10 = .ok (.ireturn, 1) := by decide +kernel
theorem dX10_readsBack_11 : decode cX10_readsBack 11 = .ok (.aload_n 1, 1) := by decide +kernel
theorem dX10_readsBack_12 : decode cX10_readsBack 12 = .ok (.aload_n 0, 1) := by decide +kernel
theorem dX10_readsBack_13 : decode cX10_readsBack 13 = .ok (.getfield 90, 3) := by decide +kernel
theorem dX10_readsBack_16 : decode cX10_readsBack 16 = .ok (.putfield 109, 3) := by decide +kernel
theorem dX10_readsBack_19 : decode cX10_readsBack 19 = .ok (.iconst 1, 1) := by decide +kernel
theorem dX10_readsBack_20 : decode cX10_readsBack 20 = .ok (.ireturn, 1) := by decide +kernel
theorem dX10_passesKind_0 : decode cX10_passesKind 0 = .ok (.aload_n 0, 1) := by decide +kernel
theorem dX10_passesKind_1 : decode cX10_passesKind 1 = .ok (.aload_n 0, 1) := by decide +kernel
theorem dX10_passesKind_2 : decode cX10_passesKind 2 = .ok (.ldc 111, 2) := by decide +kernel
theorem dX10_passesKind_4 : decode cX10_passesKind 4 = .ok (.invokevirtual 43, 3) := by decide +kernel
theorem dX10_passesKind_7 : decode cX10_passesKind 7 = .ok (.ifCond .eq 7, 3) := by decide +kernel
theorem dX10_passesKind_10 : decode cX10_passesKind 10 = .ok (.iconst 0, 1) := by decide +kernel
theorem dX10_passesKind_11 : decode cX10_passesKind 11 = .ok (.goto 56, 3) := by decide +kernel
theorem dX10_passesKind_14 : decode cX10_passesKind 14 = .ok (.aload_n 0, 1) := by decide +kernel
theorem dX10_passesKind_15 : decode cX10_passesKind 15 = .ok (.ldc 113, 2) := by decide +kernel
theorem dX10_passesKind_17 : decode cX10_passesKind 17 = .ok (.invokevirtual 43, 3) := by decide +kernel
theorem dX10_passesKind_20 : decode cX10_passesKind 20 = .ok (.ifCond .eq 7, 3) := by decide +kernel
theorem dX10_passesKind_23 : decode cX10_passesKind 23 = .ok (.iconst 1, 1) := by decide +kernel
theorem dX10_passesKind_24 : decode cX10_passesKind 24 = .ok (.goto 43, 3) := by decide +kernel
theorem dX10_passesKind_27 : decode cX10_passesKind 27 = .ok (.aload_n 0, 1) := by decide +kernel
theorem dX10_passesKind_28 : decode cX10_passesKind 28 = .ok (.ldc 115, 2) := by decide +kernel
theorem dX10_passesKind_30 : decode cX10_passesKind 30 = .ok (.invokevirtual 43, 3) := by decide +kernel
theorem dX10_passesKind_33 : decode cX10_passesKind 33 = .ok (.ifCond .eq 7, 3) := by decide +kernel
theorem dX10_passesKind_36 : decode cX10_passesKind 36 = .ok (.iconst 2, 1) := by decide +kernel
theorem dX10_passesKind_37 : decode cX10_passesKind 37 = .ok (.goto 30, 3) := by decide +kernel
theorem dX10_passesKind_40 : decode cX10_passesKind 40 = .ok (.aload_n 0, 1) := by decide +kernel
theorem dX10_passesKind_41 : decode cX10_passesKind 41 = .ok (.ldc 117, 2) := by decide +kernel
theorem dX10_passesKind_43 : decode cX10_passesKind 43 = .ok (.invokevirtual 43, 3) := by decide +kernel
theorem dX10_passesKind_46 : decode cX10_passesKind 46 = .ok (.ifCond .eq 7, 3) := by decide +kernel
theorem dX10_passesKind_49 : decode cX10_passesKind 49 = .ok (.iconst 3, 1) := by decide +kernel
theorem dX10_passesKind_50 : decode cX10_passesKind 50 = .ok (.goto 17, 3) := by decide +kernel
theorem dX10_passesKind_53 : decode cX10_passesKind 53 = .ok (.aload_n 0, 1) := by decide +kernel
theorem dX10_passesKind_54 : decode cX10_passesKind 54 = .ok (.ldc 119, 2) := by decide +kernel
theorem dX10_passesKind_56 : decode cX10_passesKind 56 = .ok (.invokevirtual 43, 3) := by decide +kernel
theorem dX10_passesKind_59 : decode cX10_passesKind 59 = .ok (.ifCond .eq 7, 3) := by decide +kernel
theorem dX10_passesKind_62 : decode cX10_passesKind 62 = .ok (.iconst 4, 1) := by decide +kernel
theorem dX10_passesKind_63 : decode cX10_passesKind 63 = .ok (.goto 4, 3) := by decide +kernel
theorem dX10_passesKind_66 : decode cX10_passesKind 66 = .ok (.iconst (-1), 1) := by decide +kernel
theorem dX10_passesKind_67 : decode cX10_passesKind 67 = .ok (.putfield 87, 3) := by decide +kernel
theorem dX10_passesKind_70 : decode cX10_passesKind 70 = .ok (.aload_n 0, 1) := by decide +kernel
theorem dX10_passesKind_71 : decode cX10_passesKind 71 = .ok (.getfield 87, 3) := by decide +kernel
theorem dX10_passesKind_74 : decode cX10_passesKind 74 = .ok (.iconst (-1), 1) := by decide +kernel
theorem dX10_passesKind_75 : decode cX10_passesKind 75 = .ok (.if_icmp .eq 7, 3) := by decide +kernel
theorem dX10_passesKind_78 : decode cX10_passesKind 78 = .ok (.iconst 1, 1) := by decide +kernel
theorem dX10_passesKind_79 : decode cX10_passesKind 79 = .ok (.goto 4, 3) := by decide +kernel
theorem dX10_passesKind_82 : decode cX10_passesKind 82 = .ok (.iconst 0, 1) := by decide +kernel
theorem dX10_passesKind_83 : decode cX10_passesKind 83 = .ok (.ireturn, 1) := by decide +kernel
theorem dX10_passesNumber_0 : decode cX10_passesNumber 0 = .ok (.aload_n 0, 1) := by decide +kernel
theorem dX10_passesNumber_1 : decode cX10_passesNumber 1 = .ok (.getfield 38, 3) := by decide +kernel
theorem dX10_passesNumber_4 : decode cX10_passesNumber 4 = .ok (.aload_n 0, 1) := by decide +kernel
theorem dX10_passesNumber_5 : decode cX10_passesNumber 5 = .ok (.getfield 15, 3) := by decide +kernel
theorem dX10_passesNumber_8 : decode cX10_passesNumber 8 = .ok (.if_icmp .eq 31, 3) := by decide +kernel
theorem dX10_passesNumber_11 : decode cX10_passesNumber 11 = .ok (.aload_n 0, 1) := by decide +kernel
theorem dX10_passesNumber_12 : decode cX10_passesNumber 12 = .ok (.getfield 9, 3) := by decide +kernel
theorem dX10_passesNumber_15 : decode cX10_passesNumber 15 = .ok (.aload_n 0, 1) := by decide +kernel
theorem dX10_passesNumber_16 : decode cX10_passesNumber 16 = .ok (.getfield 38, 3) := by decide +kernel
theorem dX10_passesNumber_19 : decode cX10_passesNumber 19 = .ok (.caload, 1) := by decide +kernel
theorem dX10_passesNumber_20 : decode cX10_passesNumber 20 = .ok (.invokestatic 121, 3) := by decide +kernel
theorem dX10_passesNumber_23 : decode cX10_passesNumber 23 = .ok (.ifCond .eq 16, 3) := by decide +kernel
theorem dX10_passesNumber_26 : decode cX10_passesNumber 26 = .ok (.aload_n 0, 1) := by decide +kernel
theorem dX10_passesNumber_27 : decode cX10_passesNumber 27 = .ok (.getfield 28, 3) := by decide +kernel
theorem dX10_passesNumber_30 : decode cX10_passesNumber 30 = .ok (.aload_n 0, 1) := by decide +kernel
theorem dX10_passesNumber_31 : decode cX10_passesNumber 31 = .ok (.getfield 38, 3) := by decide +kernel
theorem dX10_passesNumber_34 : decode cX10_passesNumber 34 = .ok (.isub, 1) := by decide +kernel
theorem dX10_passesNumber_35 : decode cX10_passesNumber 35 = .ok (.iconst 2, 1) := by decide +kernel
theorem dX10_passesNumber_36 : decode cX10_passesNumber 36 = .ok (.if_icmp .le 5, 3) := by decide +kernel
theorem dX10_passesNumber_39 : decode cX10_passesNumber 39 = .ok (.iconst 0, 1) := by decide +kernel
theorem dX10_passesNumber_40 : decode cX10_passesNumber 40 = .ok (.ireturn, 1) := by decide +kernel
theorem dX10_passesNumber_41 : decode cX10_passesNumber 41 = .ok (.iconst 0, 1) := by decide +kernel
theorem dX10_passesNumber_42 : decode cX10_passesNumber 42 = .ok (.istore_n 2, 1) := by decide +kernel
theorem dX10_passesNumber_43 : decode cX10_passesNumber 43 = .ok (.aload_n 0, 1) := by decide +kernel
theorem dX10_passesNumber_44 : decode cX10_passesNumber 44 = .ok (.getfield 38, 3) := by decide +kernel
theorem dX10_passesNumber_47 : decode cX10_passesNumber 47 = .ok (.istore_n 3, 1) := by decide +kernel
theorem dX10_passesNumber_48 : decode cX10_passesNumber 48 = .ok (.iload_n 3, 1) := by decide +kernel
theorem dX10_passesNumber_49 : decode cX10_passesNumber 49 = .ok (.aload_n 0, 1) := by decide +kernel
theorem dX10_passesNumber_50 : decode cX10_passesNumber 50 = .ok (.getfield 28, 3) := by decide +kernel
theorem dX10_passesNumber_53 : decode cX10_passesNumber 53 = .ok (.if_icmp .ge 24, 3) := by decide +kernel
theorem dX10_passesNumber_56 : decode cX10_passesNumber 56 = .ok (.bipush 10, 2) := by decide +kernel
theorem dX10_passesNumber_58 : decode cX10_passesNumber 58 = .ok (.iload_n 2, 1) := by decide +kernel
theorem dX10_passesNumber_59 : decode cX10_passesNumber 59 = .ok (.imul, 1) := by decide +kernel
theorem dX10_passesNumber_60 : decode cX10_passesNumber 60 = .ok (.aload_n 0, 1) := by decide +kernel
theorem dX10_passesNumber_61 : decode cX10_passesNumber 61 = .ok (.getfield 9, 3) := by decide +kernel
theorem dX10_passesNumber_64 : decode cX10_passesNumber 64 = .ok (.iload_n 3, 1) := by decide +kernel
theorem dX10_passesNumber_65 : decode cX10_passesNumber 65 = .ok (.caload, 1) := by decide +kernel
theorem dX10_passesNumber_66 : decode cX10_passesNumber 66 = .ok (.iadd, 1) := by decide +kernel
theorem dX10_passesNumber_67 : decode cX10_passesNumber 67 = .ok (.bipush 48, 2) := by decide +kernel
theorem dX10_passesNumber_69 : decode cX10_passesNumber 69 = .ok (.isub, 1) := by decide +kernel
theorem dX10_passesNumber_70 : decode cX10_passesNumber 70 = .ok (.istore_n 2, 1) := by decide +kernel
theorem dX10_passesNumber_71 : decode cX10_passesNumber 71 = .ok (.iinc 3 1, 3) := by decide +kernel
theorem dX10_passesNumber_74 : decode cX10_passesNumber 74 = .ok (.goto (-26), 3) := by decide +kernel
theorem dX10_passesNumber_77 : decode cX10_passesNumber 77 = .ok (.iload_n 2, 1) := by decide +kernel
theorem dX10_passesNumber_78 : decode cX10_passesNumber 78 = .ok (.iload_n 1, 1) := by decide +kernel
theorem dX10_passesNumber_79 : decode cX10_passesNumber 79 = .ok (.if_icmp .le 5, 3) := by decide +kernel
theorem dX10_passesNumber_82 : decode cX10_passesNumber 82 = .ok (.iconst 0, 1) := by decide +kernel
theorem dX10_passesNumber_83 : decode cX10_passesNumber 83 = .ok (.ireturn, 1) := by decide +kernel
theorem dX10_passesNumber_84 : decode cX10_passesNumber 84 = .ok (.aload_n 0, 1) := by decide +kernel
theorem dX10_passesNumber_85 : decode cX10_passesNumber 85 = .ok (.iload_n 2, 1) := by decide +kernel
theorem dX10_passesNumber_86 : decode cX10_passesNumber 86 = .ok (.putfield 90, 3) := by decide +kernel
theorem dX10_passesNumber_89 : decode cX10_passesNumber 89 = .ok (.aload_n 0, 1) := by decide +kernel
theorem dX10_passesNumber_90 : decode cX10_passesNumber 90 = .ok (.invokevirtual 31, 3) := by decide +kernel
theorem dX10_passesNumber_93 : decode cX10_passesNumber 93 = .ok (.iconst 1, 1) := by decide +kernel
theorem dX10_passesNumber_94 : decode cX10_passesNumber 94 = .ok (.ireturn, 1) := by decide +kernel
theorem dX10_passes_0 : decode cX10_passes 0 = .ok (.aload_n 0, 1) := by decide +kernel
theorem dX10_passes_1 : decode cX10_passes 1 = .ok (.getfield 28, 3) := by decide +kernel
theorem dX10_passes_4 : decode cX10_passes 4 = .ok (.aload_n 0, 1) := by decide +kernel
theorem dX10_passes_5 : decode cX10_passes 5 = .ok (.getfield 38, 3) := by decide +kernel
theorem dX10_passes_8 : decode cX10_passes 8 = .ok (.isub, 1) := by decide +kernel
theorem dX10_passes_9 : decode cX10_passes 9 = .ok (.aload_n 1, 1) := by decide +kernel
theorem dX10_passes_10 : decode cX10_passes 10 = .ok (.invokevirtual 125, 3) := by decide +kernel
theorem dX10_passes_13 : decode cX10_passes 13 = .ok (.if_icmp .eq 5, 3) := by decide +kernel
theorem dX10_passes_16 : decode cX10_passes 16 = .ok (.iconst 0, 1) := by decide +kernel
theorem dX10_passes_17 : decode cX10_passes 17 = .ok (.ireturn, 1) := by decide +kernel
theorem dX10_passes_18 : decode cX10_passes 18 = .ok (.aload_n 0, 1) := by decide +kernel
theorem dX10_passes_19 : decode cX10_passes 19 = .ok (.getfield 38, 3) := by decide +kernel
theorem dX10_passes_22 : decode cX10_passes 22 = .ok (.istore_n 2, 1) := by decide +kernel
theorem dX10_passes_23 : decode cX10_passes 23 = .ok (.iload_n 2, 1) := by decide +kernel
theorem dX10_passes_24 : decode cX10_passes 24 = .ok (.aload_n 0, 1) := by decide +kernel
theorem dX10_passes_25 : decode cX10_passes 25 = .ok (.getfield 28, 3) := by decide +kernel
theorem dX10_passes_28 : decode cX10_passes 28 = .ok (.if_icmp .ge 30, 3) := by decide +kernel
theorem dX10_passes_31 : decode cX10_passes 31 = .ok (.aload_n 0, 1) := by decide +kernel
theorem dX10_passes_32 : decode cX10_passes 32 = .ok (.getfield 9, 3) := by decide +kernel
theorem dX10_passes_35 : decode cX10_passes 35 = .ok (.iload_n 2, 1) := by decide +kernel
theorem dX10_passes_36 : decode cX10_passes 36 = .ok (.caload, 1) := by decide +kernel
theorem dX10_passes_37 : decode cX10_passes 37 = .ok (.aload_n 1, 1) := by decide +kernel
theorem dX10_passes_38 : decode cX10_passes 38 = .ok (.iload_n 2, 1) := by decide +kernel
theorem dX10_passes_39 : decode cX10_passes 39 = .ok (.aload_n 0, 1) := by decide +kernel
theorem dX10_passes_40 : decode cX10_passes 40 = .ok (.getfield 38, 3) := by decide +kernel
theorem dX10_passes_43 : decode cX10_passes 43 = .ok (.isub, 1) := by decide +kernel
theorem dX10_passes_44 : decode cX10_passes 44 = .ok (.invokevirtual 130, 3) := by decide +kernel
theorem dX10_passes_47 : decode cX10_passes 47 = .ok (.if_icmp .eq 5, 3) := by decide +kernel
theorem dX10_passes_50 : decode cX10_passes 50 = .ok (.iconst 0, 1) := by decide +kernel
theorem dX10_passes_51 : decode cX10_passes 51 = .ok (.ireturn, 1) := by decide +kernel
theorem dX10_passes_52 : decode cX10_passes 52 = .ok (.iinc 2 1, 3) := by decide +kernel
theorem dX10_passes_55 : decode cX10_passes 55 = .ok (.goto (-32), 3) := by decide +kernel
theorem dX10_passes_58 : decode cX10_passes 58 = .ok (.aload_n 0, 1) := by decide +kernel
theorem dX10_passes_59 : decode cX10_passes 59 = .ok (.invokevirtual 31, 3) := by decide +kernel
theorem dX10_passes_62 : decode cX10_passes 62 = .ok (.iconst 1, 1) := by decide +kernel
theorem dX10_passes_63 : decode cX10_passes 63 = .ok (.ireturn, 1) := by decide +kernel
theorem dX10_goOn_0 : decode cX10_goOn 0 = .ok (.aload_n 0, 1) := by decide +kernel
theorem dX10_goOn_1 : decode cX10_goOn 1 = .ok (.aload_n 0, 1) := by decide +kernel
theorem dX10_goOn_2 : decode cX10_goOn 2 = .ok (.getfield 28, 3) := by decide +kernel
theorem dX10_goOn_5 : decode cX10_goOn 5 = .ok (.putfield 38, 3) := by decide +kernel
theorem dX10_goOn_8 : decode cX10_goOn 8 = .ok (.aload_n 0, 1) := by decide +kernel
theorem dX10_goOn_9 : decode cX10_goOn 9 = .ok (.getfield 38, 3) := by decide +kernel
theorem dX10_goOn_12 : decode cX10_goOn 12 = .ok (.aload_n 0, 1) := by decide +kernel
theorem dX10_goOn_13 : decode cX10_goOn 13 = .ok (.getfield 15, 3) := by decide +kernel
theorem dX10_goOn_16 : decode cX10_goOn 16 = .ok (.if_icmp .ge 30, 3) := by decide +kernel
theorem dX10_goOn_19 : decode cX10_goOn 19 = .ok (.aload_n 0, 1) := by decide +kernel
theorem dX10_goOn_20 : decode cX10_goOn 20 = .ok (.getfield 9, 3) := by decide +kernel
theorem dX10_goOn_23 : decode cX10_goOn 23 = .ok (.aload_n 0, 1) := by decide +kernel
theorem dX10_goOn_24 : decode cX10_goOn 24 = .ok (.getfield 38, 3) := by decide +kernel
theorem dX10_goOn_27 : decode cX10_goOn 27 = .ok (.caload, 1) := by decide +kernel
theorem dX10_goOn_28 : decode cX10_goOn 28 = .ok (.bipush 32, 2) := by decide +kernel
theorem dX10_goOn_30 : decode cX10_goOn 30 = .ok (.if_icmp .ne 16, 3) := by decide +kernel
theorem dX10_goOn_33 : decode cX10_goOn 33 = .ok (.aload_n 0, 1) := by decide +kernel
theorem dX10_goOn_34 : decode cX10_goOn 34 = .ok (.dup, 1) := by decide +kernel
theorem dX10_goOn_35 : decode cX10_goOn 35 = .ok (.getfield 38, 3) := by decide +kernel
theorem dX10_goOn_38 : decode cX10_goOn 38 = .ok (.iconst 1, 1) := by decide +kernel
theorem dX10_goOn_39 : decode cX10_goOn 39 = .ok (.iadd, 1) := by decide +kernel
theorem dX10_goOn_40 : decode cX10_goOn 40 = .ok (.putfield 38, 3) := by decide +kernel
theorem dX10_goOn_43 : decode cX10_goOn 43 = .ok (.goto (-35), 3) := by decide +kernel
theorem dX10_goOn_46 : decode cX10_goOn 46 = .ok (.aload_n 0, 1) := by decide +kernel
theorem dX10_goOn_47 : decode cX10_goOn 47 = .ok (.aload_n 0, 1) := by decide +kernel
theorem dX10_goOn_48 : decode cX10_goOn 48 = .ok (.getfield 38, 3) := by decide +kernel
theorem dX10_goOn_51 : decode cX10_goOn 51 = .ok (.iconst 1, 1) := by decide +kernel
theorem dX10_goOn_52 : decode cX10_goOn 52 = .ok (.iadd, 1) := by decide +kernel
theorem dX10_goOn_53 : decode cX10_goOn 53 = .ok (.aload_n 0, 1) := by decide +kernel
theorem dX10_goOn_54 : decode cX10_goOn 54 = .ok (.getfield 15, 3) := by decide +kernel
theorem dX10_goOn_57 : decode cX10_goOn 57 = .ok (.invokestatic 134, 3) := by decide +kernel
theorem dX10_goOn_60 : decode cX10_goOn 60 = .ok (.putfield 28, 3) := by decide +kernel
theorem dX10_goOn_63 : decode cX10_goOn 63 = .ok (.aload_n 0, 1) := by decide +kernel
theorem dX10_goOn_64 : decode cX10_goOn 64 = .ok (.getfield 38, 3) := by decide +kernel
theorem dX10_goOn_67 : decode cX10_goOn 67 = .ok (.aload_n 0, 1) := by decide +kernel
theorem dX10_goOn_68 : decode cX10_goOn 68 = .ok (.getfield 15, 3) := by decide +kernel
theorem dX10_goOn_71 : decode cX10_goOn 71 = .ok (.if_icmp .ne 4, 3) := by decide +kernel
theorem dX10_goOn_74 : decode cX10_goOn 74 = .ok (.return_, 1) := by decide +kernel
theorem dX10_goOn_75 : decode cX10_goOn 75 = .ok (.aload_n 0, 1) := by decide +kernel
theorem dX10_goOn_76 : decode cX10_goOn 76 = .ok (.getfield 9, 3) := by decide +kernel
theorem dX10_goOn_79 : decode cX10_goOn 79 = .ok (.aload_n 0, 1) := by decide +kernel
theorem dX10_goOn_80 : decode cX10_goOn 80 = .ok (.getfield 38, 3) := by decide +kernel
theorem dX10_goOn_83 : decode cX10_goOn 83 = .ok (.caload, 1) := by decide +kernel
theorem dX10_goOn_84 : decode cX10_goOn 84 = .ok (.invokestatic 140, 3) := by decide +kernel
theorem dX10_goOn_87 : decode cX10_goOn 87 = .ok (.istore_n 1, 1) := by decide +kernel
theorem dX10_goOn_88 : decode cX10_goOn 88 = .ok (.aload_n 0, 1) := by decide +kernel
theorem dX10_goOn_89 : decode cX10_goOn 89 = .ok (.getfield 9, 3) := by decide +kernel
theorem dX10_goOn_92 : decode cX10_goOn 92 = .ok (.aload_n 0, 1) := by decide +kernel
theorem dX10_goOn_93 : decode cX10_goOn 93 = .ok (.getfield 38, 3) := by decide +kernel
theorem dX10_goOn_96 : decode cX10_goOn 96 = .ok (.caload, 1) := by decide +kernel
theorem dX10_goOn_97 : decode cX10_goOn 97 = .ok (.invokestatic 121, 3) := by decide +kernel
theorem dX10_goOn_100 : decode cX10_goOn 100 = .ok (.istore_n 2, 1) := by decide +kernel
theorem dX10_goOn_101 : decode cX10_goOn 101 = .ok (.aload_n 0, 1) := by decide +kernel
theorem dX10_goOn_102 : decode cX10_goOn 102 = .ok (.getfield 28, 3) := by decide +kernel
theorem dX10_goOn_105 : decode cX10_goOn 105 = .ok (.aload_n 0, 1) := by decide +kernel
theorem dX10_goOn_106 : decode cX10_goOn 106 = .ok (.getfield 15, 3) := by decide +kernel
theorem dX10_goOn_109 : decode cX10_goOn 109 = .ok (.if_icmp .ge 54, 3) := by decide +kernel
theorem dX10_goOn_112 : decode cX10_goOn 112 = .ok (.iload_n 1, 1) := by decide +kernel
theorem dX10_goOn_113 : decode cX10_goOn 113 = .ok (.ifCond .eq 18, 3) := by decide +kernel
theorem dX10_goOn_116 : decode cX10_goOn 116 = .ok (.aload_n 0, 1) := by decide +kernel
theorem dX10_goOn_117 : decode cX10_goOn 117 = .ok (.getfield 9, 3) := by decide +kernel
theorem dX10_goOn_120 : decode cX10_goOn 120 = .ok (.aload_n 0, 1) := by decide +kernel
theorem dX10_goOn_121 : decode cX10_goOn 121 = .ok (.getfield 28, 3) := by decide +kernel
theorem dX10_goOn_124 : decode cX10_goOn 124 = .ok (.caload, 1) := by decide +kernel
theorem dX10_goOn_125 : decode cX10_goOn 125 = .ok (.invokestatic 140, 3) := by decide +kernel
theorem dX10_goOn_128 : decode cX10_goOn 128 = .ok (.ifCond .ne 22, 3) := by decide +kernel
theorem dX10_goOn_131 : decode cX10_goOn 131 = .ok (.iload_n 2, 1) := by decide +kernel
theorem dX10_goOn_132 : decode cX10_goOn 132 = .ok (.ifCond .eq 31, 3) := by decide +kernel
theorem dX10_goOn_135 : decode cX10_goOn 135 = .ok (.aload_n 0, 1) := by decide +kernel
theorem dX10_goOn_136 : decode cX10_goOn 136 = .ok (.getfield 9, 3) := by decide +kernel
theorem dX10_goOn_139 : decode cX10_goOn 139 = .ok (.aload_n 0, 1) := by decide +kernel
theorem dX10_goOn_140 : decode cX10_goOn 140 = .ok (.getfield 28, 3) := by decide +kernel
theorem dX10_goOn_143 : decode cX10_goOn 143 = .ok (.caload, 1) := by decide +kernel
theorem dX10_goOn_144 : decode cX10_goOn 144 = .ok (.invokestatic 121, 3) := by decide +kernel
theorem dX10_goOn_147 : decode cX10_goOn 147 = .ok (.ifCond .eq 16, 3) := by decide +kernel
theorem dX10_goOn_150 : decode cX10_goOn 150 = .ok (.aload_n 0, 1) := by decide +kernel
theorem dX10_goOn_151 : decode cX10_goOn 151 = .ok (.dup, 1) := by decide +kernel
theorem dX10_goOn_152 : decode cX10_goOn 152 = .ok (.getfield 28, 3) := by decide +kernel
theorem dX10_goOn_155 : decode cX10_goOn 155 = .ok (.iconst 1, 1) := by decide +kernel
theorem dX10_goOn_156 : decode cX10_goOn 156 = .ok (.iadd, 1) := by decide +kernel
theorem dX10_goOn_157 : decode cX10_goOn 157 = .ok (.putfield 28, 3) := by decide +kernel
theorem dX10_goOn_160 : decode cX10_goOn 160 = .ok (.goto (-59), 3) := by decide +kernel
theorem dX10_goOn_163 : decode cX10_goOn 163 = .ok (.return_, 1) := by decide +kernel
theorem dX10_isLetter_0 : decode cX10_isLetter 0 = .ok (.iload_n 0, 1) := by decide +kernel
theorem dX10_isLetter_1 : decode cX10_isLetter 1 = .ok (.bipush 97, 2) := by decide +kernel
theorem dX10_isLetter_3 : decode cX10_isLetter 3 = .ok (.if_icmp .lt 13, 3) := by decide +kernel
theorem dX10_isLetter_6 : decode cX10_isLetter 6 = .ok (.iload_n 0, 1) := by decide +kernel
theorem dX10_isLetter_7 : decode cX10_isLetter 7 = .ok (.bipush 122, 2) := by decide +kernel
theorem dX10_isLetter_9 : decode cX10_isLetter 9 = .ok (.if_icmp .gt 7, 3) := by decide +kernel
theorem dX10_isLetter_12 : decode cX10_isLetter 12 = .ok (.iconst 1, 1) := by decide +kernel
theorem dX10_isLetter_13 : decode cX10_isLetter 13 = .ok (.goto 4, 3) := by decide +kernel
theorem dX10_isLetter_16 : decode cX10_isLetter 16 = .ok (.iconst 0, 1) := by decide +kernel
theorem dX10_isLetter_17 : decode cX10_isLetter 17 = .ok (.ireturn, 1) := by decide +kernel
theorem dX10_isDigit_0 : decode cX10_isDigit 0 = .ok (.iload_n 0, 1) := by decide +kernel
theorem dX10_isDigit_1 : decode cX10_isDigit 1 = .ok (.bipush 48, 2) := by decide +kernel
theorem dX10_isDigit_3 : decode cX10_isDigit 3 = .ok (.if_icmp .lt 13, 3) := by decide +kernel
theorem dX10_isDigit_6 : decode cX10_isDigit 6 = .ok (.iload_n 0, 1) := by decide +kernel
theorem dX10_isDigit_7 : decode cX10_isDigit 7 = .ok (.bipush 57, 2) := by decide +kernel
theorem dX10_isDigit_9 : decode cX10_isDigit 9 = .ok (.if_icmp .gt 7, 3) := by decide +kernel
theorem dX10_isDigit_12 : decode cX10_isDigit 12 = .ok (.iconst 1, 1) := by decide +kernel
theorem dX10_isDigit_13 : decode cX10_isDigit 13 = .ok (.goto 4, 3) := by decide +kernel
theorem dX10_isDigit_16 : decode cX10_isDigit 16 = .ok (.iconst 0, 1) := by decide +kernel
theorem dX10_isDigit_17 : decode cX10_isDigit 17 = .ok (.ireturn, 1) := by decide +kernel
