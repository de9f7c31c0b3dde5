theorem dX8_isJune_15 : decode cX8_isJune 15 = .ok (.iconst 1, 1) := by decide +kernel
theorem dX8_isJune_16 : decode cX8_isJune 16 = .ok (.goto 4, 3) := by decide +kernel
theorem dX8_isJune_19 : decode cX8_isJune 19 = .ok (.iconst 0, 1) := by decide +kernel
theorem dX8_isJune_20 : decode cX8_isJune 20 = .ok (.ireturn, 1) := by decide +kernel
theorem dX8_isSeeing_0 : decode cX8_isSeeing 0 = .ok (.iload_n 1, 1) := by decide +kernel
theorem dX8_isSeeing_1 : decode cX8_isSeeing 1 = .ok (.aload_n 0, 1) := by decide +kernel
theorem dX8_isSeeing_2 : decode cX8_isSeeing 2 = .ok (.getfield 22, 3) := by decide +kernel
theorem dX8_isSeeing_5 : decode cX8_isSeeing 5 = .ok (.iload_n 2, 1) := by decide +kernel
theorem dX8_isSeeing_6 : decode cX8_isSeeing 6 = .ok (.iaload, 1) := by decide +kernel
theorem dX8_isSeeing_7 : decode cX8_isSeeing 7 = .ok (.iconst 1, 1) := by decide +kernel
theorem dX8_isSeeing_8 : decode cX8_isSeeing 8 = .ok (.iload_n 2, 1) := by decide +kernel
theorem dX8_isSeeing_9 : decode cX8_isSeeing 9 = .ok (.ishl, 1) := by decide +kernel
theorem dX8_isSeeing_10 : decode cX8_isSeeing 10 = .ok (.ior, 1) := by decide +kernel
theorem dX8_isSeeing_11 : decode cX8_isSeeing 11 = .ok (.iand, 1) := by decide +kernel
theorem dX8_isSeeing_12 : decode cX8_isSeeing 12 = .ok (.ifCond .eq 7, 3) := by decide +kernel
theorem dX8_isSeeing_15 : decode cX8_isSeeing 15 = .ok (.iconst 1, 1) := by decide +kernel
theorem dX8_isSeeing_16 : decode cX8_isSeeing 16 = .ok (.goto 4, 3) := by decide +kernel
theorem dX8_isSeeing_19 : decode cX8_isSeeing 19 = .ok (.iconst 0, 1) := by decide +kernel
theorem dX8_isSeeing_20 : decode cX8_isSeeing 20 = .ok (.ireturn, 1) := by decide +kernel
theorem dX8_isWindyAsItGoes_0 : decode cX8_isWindyAsItGoes 0 = .ok (.aload_n 0, 1) := by decide +kernel
theorem dX8_isWindyAsItGoes_1 : decode cX8_isWindyAsItGoes 1 = .ok (.getfield 69, 3) := by decide +kernel
theorem dX8_isWindyAsItGoes_4 : decode cX8_isWindyAsItGoes 4 = .ok (.bipush 50, 2) := by decide +kernel
theorem dX8_isWindyAsItGoes_6 : decode cX8_isWindyAsItGoes 6 = .ok (.if_icmp .lt 7, 3) := by decide +kernel
theorem dX8_isWindyAsItGoes_9 : decode cX8_isWindyAsItGoes 9 = .ok (.iconst 1, 1) := by decide +kernel
theorem dX8_isWindyAsItGoes_10 : decode cX8_isWindyAsItGoes 10 = .ok (.goto 4, 3) := by decide +kernel
theorem dX8_isWindyAsItGoes_13 : decode cX8_isWindyAsItGoes 13 = .ok (.iconst 0, 1) := by decide +kernel
theorem dX8_isWindyAsItGoes_14 : decode cX8_isWindyAsItGoes 14 = .ok (.ireturn, 1) := by decide +kernel
theorem dX9_init_0 : decode cX9_init 0 = .ok (.aload_n 0, 1) := by decide +kernel
theorem dX9_init_1 : decode cX9_init 1 = .ok (.invokespecial 3, 3) := by decide +kernel
theorem dX9_init_4 : decode cX9_init 4 = .ok (.aload_n 0, 1) := by decide +kernel
theorem dX9_init_5 : decode cX9_init 5 = .ok (.bipush 60, 2) := by decide +kernel
theorem dX9_init_7 : decode cX9_init 7 = .ok (.newarray .int, 2) := by decide +kernel
theorem dX9_init_9 : decode cX9_init 9 = .ok (.putfield 9, 3) := by decide +kernel
theorem dX9_init_12 : decode cX9_init 12 = .ok (.aload_n 0, 1) := by decide +kernel
theorem dX9_init_13 : decode cX9_init 13 = .ok (.bipush 62, 2) := by decide +kernel
theorem dX9_init_15 : decode cX9_init 15 = .ok (.newarray .int, 2) := by decide +kernel
theorem dX9_init_17 : decode cX9_init 17 = .ok (.putfield 15, 3) := by decide +kernel
theorem dX9_init_20 : decode cX9_init 20 = .ok (.aload_n 0, 1) := by decide +kernel
theorem dX9_init_21 : decode cX9_init 21 = .ok (.bipush 62, 2) := by decide +kernel
theorem dX9_init_23 : decode cX9_init 23 = .ok (.newarray .int, 2) := by decide +kernel
theorem dX9_init_25 : decode cX9_init 25 = .ok (.putfield 18, 3) := by decide +kernel
theorem dX9_init_28 : decode cX9_init 28 = .ok (.aload_n 0, 1) := by decide +kernel
theorem dX9_init_29 : decode cX9_init 29 = .ok (.bipush 62, 2) := by decide +kernel
theorem dX9_init_31 : decode cX9_init 31 = .ok (.newarray .int, 2) := by decide +kernel
theorem dX9_init_33 : decode cX9_init 33 = .ok (.putfield 21, 3) := by decide +kernel
theorem dX9_init_36 : decode cX9_init 36 = .ok (.return_, 1) := by decide +kernel
theorem dX9_play_0 : decode cX9_play 0 = .ok (.aload_n 0, 1) := by decide +kernel
theorem dX9_play_1 : decode cX9_play 1 = .ok (.iconst 0, 1) := by decide +kernel
theorem dX9_play_2 : decode cX9_play 2 = .ok (.putfield 24, 3) := by decide +kernel
theorem dX9_play_5 : decode cX9_play 5 = .ok (.aload_n 0, 1) := by decide +kernel
theorem dX9_play_6 : decode cX9_play 6 = .ok (.iconst 0, 1) := by decide +kernel
theorem dX9_play_7 : decode cX9_play 7 = .ok (.putfield 28, 3) := by decide +kernel
theorem dX9_play_10 : decode cX9_play 10 = .ok (.aload_n 0, 1) := by decide +kernel
theorem dX9_play_11 : decode cX9_play 11 = .ok (.getfield 15, 3) := by decide +kernel
theorem dX9_play_14 : decode cX9_play 14 = .ok (.iconst 0, 1) := by decide +kernel
theorem dX9_play_15 : decode cX9_play 15 = .ok (.invokestatic 31, 3) := by decide +kernel
theorem dX9_play_18 : decode cX9_play 18 = .ok (.aload_n 0, 1) := by decide +kernel
theorem dX9_play_19 : decode cX9_play 19 = .ok (.getfield 18, 3) := by decide +kernel
theorem dX9_play_22 : decode cX9_play 22 = .ok (.iconst 0, 1) := by decide +kernel
theorem dX9_play_23 : decode cX9_play 23 = .ok (.invokestatic 31, 3) := by decide +kernel
theorem dX9_play_26 : decode cX9_play 26 = .ok (.iconst 0, 1) := by decide +kernel
theorem dX9_play_27 : decode cX9_play 27 = .ok (.istore 5, 2) := by decide +kernel
theorem dX9_play_29 : decode cX9_play 29 = .ok (.iload 5, 2) := by decide +kernel
theorem dX9_play_31 : decode cX9_play 31 = .ok (.aload_n 0, 1) := by decide +kernel
theorem dX9_play_32 : decode cX9_play 32 = .ok (.getfield 9, 3) := by decide +kernel
theorem dX9_play_35 : decode cX9_play 35 = .ok (.arraylength, 1) := by decide +kernel
theorem dX9_play_36 : decode cX9_play 36 = .ok (.if_icmp .ge 36, 3) := by decide +kernel
theorem dX9_play_39 : decode cX9_play 39 = .ok (.aload_n 0, 1) := by decide +kernel
theorem dX9_play_40 : decode cX9_play 40 = .ok (.getfield 9, 3) := by decide +kernel
theorem dX9_play_43 : decode cX9_play 43 = .ok (.iload 5, 2) := by decide +kernel
theorem dX9_play_45 : decode cX9_play 45 = .ok (.iload 5, 2) := by decide +kernel
theorem dX9_play_47 : decode cX9_play 47 = .ok (.iload 4, 2) := by decide +kernel
theorem dX9_play_49 : decode cX9_play 49 = .ok (.if_icmp .ge 15, 3) := by decide +kernel
theorem dX9_play_52 : decode cX9_play 52 = .ok (.lload_n 1, 1) := by decide +kernel
theorem dX9_play_53 : decode cX9_play 53 = .ok (.iload_n 3, 1) := by decide +kernel
theorem dX9_play_54 : decode cX9_play 54 = .ok (.iload 5, 2) := by decide +kernel
theorem dX9_play_56 : decode cX9_play 56 = .ok (.iadd, 1) := by decide +kernel
theorem dX9_play_57 : decode cX9_play 57 = .ok (.lshr, 1) := by decide +kernel
theorem dX9_play_58 : decode cX9_play 58 = .ok (.lconst 1, 1) := by decide +kernel
theorem dX9_play_59 : decode cX9_play 59 = .ok (.land, 1) := by decide +kernel
theorem dX9_play_60 : decode cX9_play 60 = .ok (.l2i, 1) := by decide +kernel
theorem dX9_play_61 : decode cX9_play 61 = .ok (.goto 4, 3) := by decide +kernel
theorem dX9_play_64 : decode cX9_play 64 = .ok (.iconst 0, 1) := by decide +kernel
theorem dX9_play_65 : decode cX9_play 65 = .ok (.iastore, 1) := by decide +kernel
theorem dX9_play_66 : decode cX9_play 66 = .ok (.iinc 5 1, 3) := by decide +kernel
theorem dX9_play_69 : decode cX9_play 69 = .ok (.goto (-40), 3) := by decide +kernel
theorem dX9_play_72 : decode cX9_play 72 = .ok (.iconst 1, 1) := by decide +kernel
theorem dX9_play_73 : decode cX9_play 73 = .ok (.istore 5, 2) := by decide +kernel
theorem dX9_play_75 : decode cX9_play 75 = .ok (.iload 5, 2) := by decide +kernel
theorem dX9_play_77 : decode cX9_play 77 = .ok (.iload 4, 2) := by decide +kernel
theorem dX9_play_79 : decode cX9_play 79 = .ok (.if_icmp .gt 100, 3) := by decide +kernel
theorem dX9_play_82 : decode cX9_play 82 = .ok (.iload 5, 2) := by decide +kernel
theorem dX9_play_84 : decode cX9_play 84 = .ok (.bipush 60, 2) := by decide +kernel
theorem dX9_play_86 : decode cX9_play 86 = .ok (.if_icmp .gt 93, 3) := by decide +kernel
theorem dX9_play_89 : decode cX9_play 89 = .ok (.aload_n 0, 1) := by decide +kernel
theorem dX9_play_90 : decode cX9_play 90 = .ok (.getfield 18, 3) := by decide +kernel
theorem dX9_play_93 : decode cX9_play 93 = .ok (.iconst 0, 1) := by decide +kernel
theorem dX9_play_94 : decode cX9_play 94 = .ok (.aload_n 0, 1) := by decide +kernel
theorem dX9_play_95 : decode cX9_play 95 = .ok (.getfield 21, 3) := by decide +kernel
theorem dX9_play_98 : decode cX9_play 98 = .ok (.iconst 0, 1) := by decide +kernel
theorem dX9_play_99 : decode cX9_play 99 = .ok (.aload_n 0, 1) := by decide +kernel
theorem dX9_play_100 : decode cX9_play 100 = .ok (.getfield 21, 3) := by decide +kernel
theorem dX9_play_103 : decode cX9_play 103 = .ok (.arraylength, 1) := by decide +kernel
theorem dX9_play_104 : decode cX9_play 104 = .ok (.invokestatic 37, 3) := by decide +kernel
theorem dX9_play_107 : decode cX9_play 107 = .ok (.aload_n 0, 1) := by decide +kernel
theorem dX9_play_108 : decode cX9_play 108 = .ok (.getfield 15, 3) := by decide +kernel
theorem dX9_play_111 : decode cX9_play 111 = .ok (.iconst 0, 1) := by decide +kernel
theorem dX9_play_112 : decode cX9_play 112 = .ok (.aload_n 0, 1) := by decide +kernel
theorem dX9_play_113 : decode cX9_play 113 = .ok (.getfield 18, 3) := by decide +kernel
theorem dX9_play_116 : decode cX9_play 116 = .ok (.iconst 0, 1) := by decide +kernel
theorem dX9_play_117 : decode cX9_play 117 = .ok (.aload_n 0, 1) := by decide +kernel
theorem dX9_play_118 : decode cX9_play 118 = .ok (.getfield 18, 3) := by decide +kernel
theorem dX9_play_121 : decode cX9_play 121 = .ok (.arraylength, 1) := by decide +kernel
theorem dX9_play_122 : decode cX9_play 122 = .ok (.invokestatic 37, 3) := by decide +kernel
theorem dX9_play_125 : decode cX9_play 125 = .ok (.iconst 0, 1) := by decide +kernel
theorem dX9_play_126 : decode cX9_play 126 = .ok (.istore 6, 2) := by decide +kernel
theorem dX9_play_128 : decode cX9_play 128 = .ok (.iload 6, 2) := by decide +kernel
theorem dX9_play_130 : decode cX9_play 130 = .ok (.iload 5, 2) := by decide +kernel
theorem dX9_play_132 : decode cX9_play 132 = .ok (.iadd, 1) := by decide +kernel
theorem dX9_play_133 : decode cX9_play 133 = .ok (.iload 4, 2) := by decide +kernel
theorem dX9_play_135 : decode cX9_play 135 = .ok (.if_icmp .gt 38, 3) := by decide +kernel
theorem dX9_play_138 : decode cX9_play 138 = .ok (.iload 6, 2) := by decide +kernel
theorem dX9_play_140 : decode cX9_play 140 = .ok (.iload 5, 2) := by decide +kernel
theorem dX9_play_142 : decode cX9_play 142 = .ok (.iadd, 1) := by decide +kernel
theorem dX9_play_143 : decode cX9_play 143 = .ok (.bipush 60, 2) := by decide +kernel
theorem dX9_play_145 : decode cX9_play 145 = .ok (.if_icmp .gt 28, 3) := by decide +kernel
theorem dX9_play_148 : decode cX9_play 148 = .ok (.aload_n 0, 1) := by decide +kernel
theorem dX9_play_149 : decode cX9_play 149 = .ok (.iload 6, 2) := by decide +kernel
theorem dX9_play_151 : decode cX9_play 151 = .ok (.iload 5, 2) := by decide +kernel
theorem dX9_play_153 : decode cX9_play 153 = .ok (.invokevirtual 43, 3) := by decide +kernel
theorem dX9_play_156 : decode cX9_play 156 = .ok (.aload_n 0, 1) := by decide +kernel
theorem dX9_play_157 : decode cX9_play 157 = .ok (.getfield 15, 3) := by decide +kernel
theorem dX9_play_160 : decode cX9_play 160 = .ok (.iload 6, 2) := by decide +kernel
theorem dX9_play_162 : decode cX9_play 162 = .ok (.aload_n 0, 1) := by decide +kernel
theorem dX9_play_163 : decode cX9_play 163 = .ok (.getfield 24, 3) := by decide +kernel
theorem dX9_play_166 : decode cX9_play 166 = .ok (.iastore, 1) := by decide +kernel
theorem dX9_play_167 : decode cX9_play 167 = .ok (.iinc 6 1, 3) := by decide +kernel
theorem dX9_play_170 : decode cX9_play 170 = .ok (.goto (-42), 3) := by decide +kernel
theorem dX9_play_173 : decode cX9_play 173 = .ok (.iinc 5 1, 3) := by decide +kernel
theorem dX9_play_176 : decode cX9_play 176 = .ok (.goto (-101), 3) := by decide +kernel
theorem dX9_play_179 : decode cX9_play 179 = .ok (.return_, 1) := by decide +kernel
theorem dX9_settle_0 : decode cX9_settle 0 = .ok (.iload_n 1, 1) := by decide +kernel
theorem dX9_settle_1 : decode cX9_settle 1 = .ok (.iload_n 2, 1) := by decide +kernel
theorem dX9_settle_2 : decode cX9_settle 2 = .ok (.iadd, 1) := by decide +kernel
theorem dX9_settle_3 : decode cX9_settle 3 = .ok (.iconst 1, 1) := by decide +kernel
theorem dX9_settle_4 : decode cX9_settle 4 = .ok (.isub, 1) := by decide +kernel
theorem dX9_settle_5 : decode cX9_settle 5 = .ok (.istore_n 3, 1) := by decide +kernel
theorem dX9_settle_6 : decode cX9_settle 6 = .ok (.aload_n 0, 1) := by decide +kernel
theorem dX9_settle_7 : decode cX9_settle 7 = .ok (.aload_n 0, 1) := by decide +kernel
theorem dX9_settle_8 : decode cX9_settle 8 = .ok (.getfield 9, 3) := by decide +kernel
theorem dX9_settle_11 : decode cX9_settle 11 = .ok (.iload_n 1, 1) := by decide +kernel
theorem dX9_settle_12 : decode cX9_settle 12 = .ok (.iaload, 1) := by decide +kernel
theorem dX9_settle_13 : decode cX9_settle 13 = .ok (.aload_n 0, 1) := by decide +kernel
theorem dX9_settle_14 : decode cX9_settle 14 = .ok (.getfield 18, 3) := by decide +kernel
theorem dX9_settle_17 : decode cX9_settle 17 = .ok (.iload_n 1, 1) := by decide +kernel
theorem dX9_settle_18 : decode cX9_settle 18 = .ok (.iconst 1, 1) := by decide +kernel
theorem dX9_settle_19 : decode cX9_settle 19 = .ok (.iadd, 1) := by decide +kernel
theorem dX9_settle_20 : decode cX9_settle 20 = .ok (.iaload, 1) := by decide +kernel
theorem dX9_settle_21 : decode cX9_settle 21 = .ok (.isub, 1) := by decide +kernel
theorem dX9_settle_22 : decode cX9_settle 22 = .ok (.putfield 24, 3) := by decide +kernel
theorem dX9_settle_25 : decode cX9_settle 25 = .ok (.aload_n 0, 1) := by decide +kernel
theorem dX9_settle_26 : decode cX9_settle 26 = .ok (.iconst 1, 1) := by decide +kernel
theorem dX9_settle_27 : decode cX9_settle 27 = .ok (.putfield 28, 3) := by decide +kernel
theorem dX9_settle_30 : decode cX9_settle 30 = .ok (.iload_n 2, 1) := by decide +kernel
theorem dX9_settle_31 : decode cX9_settle 31 = .ok (.iconst 1, 1) := by decide +kernel
theorem dX9_settle_32 : decode cX9_settle 32 = .ok (.if_icmp .le 32, 3) := by decide +kernel
theorem dX9_settle_35 : decode cX9_settle 35 = .ok (.aload_n 0, 1) := by decide +kernel
theorem dX9_settle_36 : decode cX9_settle 36 = .ok (.aload_n 0, 1) := by decide +kernel
theorem dX9_settle_37 : decode cX9_settle 37 = .ok (.getfield 9, 3) := by decide +kernel
theorem dX9_settle_40 : decode cX9_settle 40 = .ok (.iload_n 1, 1) := by decide +kernel
theorem dX9_settle_41 : decode cX9_settle 41 = .ok (.iaload, 1) := by decide +kernel
theorem dX9_settle_42 : decode cX9_settle 42 = .ok (.aload_n 0, 1) := by decide +kernel
theorem dX9_settle_43 : decode cX9_settle 43 = .ok (.getfield 9, 3) := by decide +kernel
theorem dX9_settle_46 : decode cX9_settle 46 = .ok (.iload_n 1, 1) := by decide +kernel
theorem dX9_settle_47 : decode cX9_settle 47 = .ok (.iconst 1, 1) := by decide +kernel
theorem dX9_settle_48 : decode cX9_settle 48 = .ok (.iadd, 1) := by decide +kernel
theorem dX9_settle_49 : decode cX9_settle 49 = .ok (.iaload, 1) := by decide +kernel
theorem dX9_settle_50 : decode cX9_settle 50 = .ok (.iadd, 1) := by decide +kernel
theorem dX9_settle_51 : decode cX9_settle 51 = .ok (.aload_n 0, 1) := by decide +kernel
theorem dX9_settle_52 : decode cX9_settle 52 = .ok (.getfield 21, 3) := by decide +kernel
theorem dX9_settle_55 : decode cX9_settle 55 = .ok (.iload_n 1, 1) := by decide +kernel
theorem dX9_settle_56 : decode cX9_settle 56 = .ok (.iconst 2, 1) := by decide +kernel
theorem dX9_settle_57 : decode cX9_settle 57 = .ok (.iadd, 1) := by decide +kernel
theorem dX9_settle_58 : decode cX9_settle 58 = .ok (.iaload, 1) := by decide +kernel
theorem dX9_settle_59 : decode cX9_settle 59 = .ok (.isub, 1) := by decide +kernel
theorem dX9_settle_60 : decode cX9_settle 60 = .ok (.iconst 2, 1) := by decide +kernel
theorem dX9_settle_61 : decode cX9_settle 61 = .ok (.invokevirtual 47, 3) := by decide +kernel
theorem dX9_settle_64 : decode cX9_settle 64 = .ok (.aload_n 0, 1) := by decide +kernel
theorem dX9_settle_65 : decode cX9_settle 65 = .ok (.aload_n 0, 1) := by decide +kernel
theorem dX9_settle_66 : decode cX9_settle 66 = .ok (.getfield 9, 3) := by decide +kernel
theorem dX9_settle_69 : decode cX9_settle 69 = .ok (.iload_n 3, 1) := by decide +kernel
theorem dX9_settle_70 : decode cX9_settle 70 = .ok (.iaload, 1) := by decide +kernel
theorem dX9_settle_71 : decode cX9_settle 71 = .ok (.aload_n 0, 1) := by decide +kernel
theorem dX9_settle_72 : decode cX9_settle 72 = .ok (.getfield 18, 3) := by decide +kernel
theorem dX9_settle_75 : decode cX9_settle 75 = .ok (.iload_n 1, 1) := by decide +kernel
theorem dX9_settle_76 : decode cX9_settle 76 = .ok (.iaload, 1) := by decide +kernel
theorem dX9_settle_77 : decode cX9_settle 77 = .ok (.isub, 1) := by decide +kernel
theorem dX9_settle_78 : decode cX9_settle 78 = .ok (.bipush 11, 2) := by decide +kernel
theorem dX9_settle_80 : decode cX9_settle 80 = .ok (.invokevirtual 47, 3) := by decide +kernel
theorem dX9_settle_83 : decode cX9_settle 83 = .ok (.iload_n 2, 1) := by decide +kernel
theorem dX9_settle_84 : decode cX9_settle 84 = .ok (.iconst 1, 1) := by decide +kernel
theorem dX9_settle_85 : decode cX9_settle 85 = .ok (.if_icmp .le 31, 3) := by decide +kernel
theorem dX9_settle_88 : decode cX9_settle 88 = .ok (.aload_n 0, 1) := by decide +kernel
theorem dX9_settle_89 : decode cX9_settle 89 = .ok (.aload_n 0, 1) := by decide +kernel
theorem dX9_settle_90 : decode cX9_settle 90 = .ok (.getfield 9, 3) := by decide +kernel
theorem dX9_settle_93 : decode cX9_settle 93 = .ok (.iload_n 3, 1) := by decide +kernel
theorem dX9_settle_94 : decode cX9_settle 94 = .ok (.iaload, 1) := by decide +kernel
theorem dX9_settle_95 : decode cX9_settle 95 = .ok (.aload_n 0, 1) := by decide +kernel
theorem dX9_settle_96 : decode cX9_settle 96 = .ok (.getfield 9, 3) := by decide +kernel
theorem dX9_settle_99 : decode cX9_settle 99 = .ok (.iload_n 3, 1) := by decide +kernel
theorem dX9_settle_100 : decode cX9_settle 100 = .ok (.iconst 1, 1) := by decide +kernel
theorem dX9_settle_101 : decode cX9_settle 101 = .ok (.isub, 1) := by decide +kernel
theorem dX9_settle_102 : decode cX9_settle 102 = .ok (.iaload, 1) := by decide +kernel
theorem dX9_settle_103 : decode cX9_settle 103 = .ok (.iadd, 1) := by decide +kernel
theorem dX9_settle_104 : decode cX9_settle 104 = .ok (.aload_n 0, 1) := by decide +kernel
theorem dX9_settle_105 : decode cX9_settle 105 = .ok (.getfield 21, 3) := by decide +kernel
theorem dX9_settle_108 : decode cX9_settle 108 = .ok (.iload_n 1, 1) := by decide +kernel
theorem dX9_settle_109 : decode cX9_settle 109 = .ok (.iaload, 1) := by decide +kernel
theorem dX9_settle_110 : decode cX9_settle 110 = .ok (.isub, 1) := by decide +kernel
theorem dX9_settle_111 : decode cX9_settle 111 = .ok (.bipush 12, 2) := by decide +kernel
theorem dX9_settle_113 : decode cX9_settle 113 = .ok (.invokevirtual 47, 3) := by decide +kernel
theorem dX9_settle_116 : decode cX9_settle 116 = .ok (.return_, 1) := by decide +kernel
theorem dX9_better_0 : decode cX9_better 0 = .ok (.iload_n 1, 1) := by decide +kernel
theorem dX9_better_1 : decode cX9_better 1 = .ok (.aload_n 0, 1) := by decide +kernel
theorem dX9_better_2 : decode cX9_better 2 = .ok (.getfield 24, 3) := by decide +kernel
theorem dX9_better_5 : decode cX9_better 5 = .ok (.if_icmp .le 13, 3) := by decide +kernel
theorem dX9_better_8 : decode cX9_better 8 = .ok (.aload_n 0, 1) := by decide +kernel
theorem dX9_better_9 : decode cX9_better 9 = .ok (.iload_n 1, 1) := by decide +kernel
theorem dX9_better_10 : decode cX9_better 10 = .ok (.putfield 24, 3) := by decide +kernel
theorem dX9_better_13 : decode cX9_better 13 = .ok (.aload_n 0, 1) := by decide +kernel
theorem dX9_better_14 : decode cX9_better 14 = .ok (.iload_n 2, 1) := by decide +kernel
theorem dX9_better_15 : decode cX9_better 15 = .ok (.putfield 28, 3) := by decide +kernel
theorem dX9_better_18 : decode cX9_better 18 = .ok (.return_, 1) := by decide +kernel
theorem dX10_init_0 : decode cX10_init 0 = .ok (.aload_n 0, 1) := by decide +kernel
theorem dX10_init_1 : decode cX10_init 1 = .ok (.invokespecial 3, 3) := by decide +kernel
theorem dX10_init_4 : decode cX10_init 4 = .ok (.aload_n 0, 1) := by decide +kernel
theorem dX10_init_5 : decode cX10_init 5 = .ok (.bipush 20, 2) := by decide +kernel
theorem dX10_init_7 : decode cX10_init 7 = .ok (.newarray .int, 2) := by decide +kernel
theorem dX10_init_9 : decode cX10_init 9 = .ok (.putfield 9, 3) := by decide +kernel
theorem dX10_init_12 : decode cX10_init 12 = .ok (.aload_n 0, 1) := by decide +kernel
theorem dX10_init_13 : decode cX10_init 13 = .ok (.bipush 20, 2) := by decide +kernel
theorem dX10_init_15 : decode cX10_init 15 = .ok (.newarray .int, 2) := by decide +kernel
theorem dX10_init_17 : decode cX10_init 17 = .ok (.putfield 15, 3) := by decide +kernel
theorem dX10_init_20 : decode cX10_init 20 = .ok (.aload_n 0, 1) := by decide +kernel
theorem dX10_init_21 : decode cX10_init 21 = .ok (.bipush 20, 2) := by decide +kernel
theorem dX10_init_23 : decode cX10_init 23 = .ok (.newarray .int, 2) := by decide +kernel
theorem dX10_init_25 : decode cX10_init 25 = .ok (.putfield 18, 3) := by decide +kernel
theorem dX10_init_28 : decode cX10_init 28 = .ok (.aload_n 0, 1) := by decide +kernel
theorem dX10_init_29 : decode cX10_init 29 = .ok (.bipush 20, 2) := by decide +kernel
theorem dX10_init_31 : decode cX10_init 31 = .ok (.newarray .int, 2) := by decide +kernel
theorem dX10_init_33 : decode cX10_init 33 = .ok (.putfield 21, 3) := by decide +kernel
theorem dX10_init_36 : decode cX10_init 36 = .ok (.return_, 1) := by decide +kernel
theorem dX10_forget_0 : decode cX10_forget 0 = .ok (.aload_n 0, 1) := by decide +kernel
theorem dX10_forget_1 : decode cX10_forget 1 = .ok (.iconst 0, 1) := by decide +kernel
theorem dX10_forget_2 : decode cX10_forget 2 = .ok (.putfield 24, 3) := by decide +kernel
theorem dX10_forget_5 : decode cX10_forget 5 = .ok (.return_, 1) := by decide +kernel
theorem dX10_put_0 : decode cX10_put 0 = .ok (.aload_n 0, 1) := by decide +kernel
theorem dX10_put_1 : decode cX10_put 1 = .ok (.getfield 24, 3) := by decide +kernel
theorem dX10_put_4 : decode cX10_put 4 = .ok (.bipush 20, 2) := by decide +kernel
theorem dX10_put_6 : decode cX10_put 6 = .ok (.if_icmp .ne 41, 3) := by decide +kernel
theorem dX10_put_9 : decode cX10_put 9 = .ok (.aload_n 0, 1) := by decide +kernel
theorem dX10_put_10 : decode cX10_put 10 = .ok (.getfield 9, 3) := by decide +kernel
theorem dX10_put_13 : decode cX10_put 13 = .ok (.invokestatic 28, 3) := by decide +kernel
theorem dX10_put_16 : decode cX10_put 16 = .ok (.aload_n 0, 1) := by decide +kernel
theorem dX10_put_17 : decode cX10_put 17 = .ok (.getfield 15, 3) := by decide +kernel
theorem dX10_put_20 : decode cX10_put 20 = .ok (.invokestatic 28, 3) := by decide +kernel
theorem dX10_put_23 : decode cX10_put 23 = .ok (.aload_n 0, 1) := by decide +kernel
theorem dX10_put_24 : decode cX10_put 24 = .ok (.getfield 18, 3) := by decide +kernel
theorem dX10_put_27 : decode cX10_put 27 = .ok (.invokestatic 28, 3) := by decide +kernel
theorem dX10_put_30 : decode cX10_put 30 = .ok (.aload_n 0, 1) := by decide +kernel
theorem dX10_put_31 : decode cX10_put 31 = .ok (.getfield 21, 3) := by decide +kernel
theorem dX10_put_34 : decode cX10_put 34 = .ok (.invokestatic 28, 3) := by decide +kernel
theorem dX10_put_37 : decode cX10_put 37 = .ok (.aload_n 0, 1) := by decide +kernel
theorem dX10_put_38 : decode cX10_put 38 = .ok (.dup, 1) := by decide +kernel
theorem dX10_put_39 : decode cX10_put 39 = .ok (.getfield 24, 3) := by decide +kernel
theorem dX10_put_42 : decode cX10_put 42 = .ok (.iconst 1, 1) := by decide +kernel
theorem dX10_put_43 : decode cX10_put 43 = .ok (.isub, 1) := by decide +kernel
theorem dX10_put_44 : decode cX10_put 44 = .ok (.putfield 24, 3) := by decide +kernel
theorem dX10_put_47 : decode cX10_put 47 = .ok (.aload_n 0, 1) := by decide +kernel
theorem dX10_put_48 : decode cX10_put 48 = .ok (.getfield 9, 3) := by decide +kernel
theorem dX10_put_51 : decode cX10_put 51 = .ok (.aload_n 0, 1) := by decide +kernel
theorem dX10_put_52 : decode cX10_put 52 = .ok (.getfield 24, 3) := by decide +kernel
theorem dX10_put_55 : decode cX10_put 55 = .ok (.iload_n 2, 1) := by decide +kernel
theorem dX10_put_56 : decode cX10_put 56 = .ok (.iastore, 1) := by decide +kernel
theorem dX10_put_57 : decode cX10_put 57 = .ok (.aload_n 0, 1) := by decide +kernel
theorem dX10_put_58 : decode cX10_put 58 = .ok (.getfield 15, 3) := by decide +kernel
theorem dX10_put_61 : decode cX10_put 61 = .ok (.aload_n 0, 1) := by decide +kernel
theorem dX10_put_62 : decode cX10_put 62 = .ok (.getfield 24, 3) := by decide +kernel
theorem dX10_put_65 : decode cX10_put 65 = .ok (.aload_n 1, 1) := by decide +kernel
theorem dX10_put_66 : decode cX10_put 66 = .ok (.getfield 32, 3) := by decide +kernel
theorem dX10_put_69 : decode cX10_put 69 = .ok (.iload_n 2, 1) := by decide +kernel
theorem dX10_put_70 : decode cX10_put 70 = .ok (.iaload, 1) := by decide +kernel
theorem dX10_put_71 : decode cX10_put 71 = .ok (.iastore, 1) := by decide +kernel
theorem dX10_put_72 : decode cX10_put 72 = .ok (.aload_n 0, 1) := by decide +kernel
theorem dX10_put_73 : decode cX10_put 73 = .ok (.getfield 18, 3) := by decide +kernel
theorem dX10_put_76 : decode cX10_put 76 = .ok (.aload_n 0, 1) := by decide +kernel
theorem dX10_put_77 : decode cX10_put 77 = .ok (.getfield 24, 3) := by decide +kernel
theorem dX10_put_80 : decode cX10_put 80 = .ok (.aload_n 1, 1) := by decide +kernel
theorem dX10_put_81 : decode cX10_put 81 = .ok (.getfield 37, 3) := by decide +kernel
theorem dX10_put_84 : decode cX10_put 84 = .ok (.iload_n 2, 1) := by decide +kernel
theorem dX10_put_85 : decode cX10_put 85 = .ok (.iaload, 1) := by decide +kernel
theorem dX10_put_86 : decode cX10_put 86 = .ok (.iastore, 1) := by decide +kernel
theorem dX10_put_87 : decode cX10_put 87 = .ok (.aload_n 0, 1) := by decide +kernel
theorem dX10_put_88 : decode cX10_put 88 = .ok (.getfield 21, 3) := by decide +kernel
theorem dX10_put_91 : decode cX10_put 91 = .ok (.aload_n 0, 1) := by decide +kernel
theorem dX10_put_92 : decode cX10_put 92 = .ok (.getfield 24, 3) := by decide +kernel
theorem dX10_put_95 : decode cX10_put 95 = .ok (.aload_n 1, 1) := by decide +kernel
theorem dX10_put_96 : decode cX10_put 96 = .ok (.getfield 40, 3) := by decide +kernel
theorem dX10_put_99 : decode cX10_put 99 = .ok (.iload_n 2, 1) := by decide +kernel
theorem dX10_put_100 : decode cX10_put 100 = .ok (.iaload, 1) := by decide +kernel
theorem dX10_put_101 : decode cX10_put 101 = .ok (.iastore, 1) := by decide +kernel
theorem dX10_put_102 : decode cX10_put 102 = .ok (.aload_n 0, 1) := by decide +kernel
theorem dX10_put_103 : decode cX10_put 103 = .ok (.dup, 1) := by decide +kernel
theorem dX10_put_104 : decode cX10_put 104 = .ok (.getfield 24, 3) := by decide +kernel
theorem dX10_put_107 : decode cX10_put 107 = .ok (.iconst 1, 1) := by decide +kernel
theorem dX10_put_108 : decode cX10_put 108 = .ok (.iadd, 1) := by decide +kernel
theorem dX10_put_109 : decode cX10_put 109 = .ok (.putfield 24, 3) := by decide +kernel
theorem dX10_put_112 : decode cX10_put 112 = .ok (.return_, 1) := by decide +kernel
theorem dX10_dropFirst_0 : decode cX10_dropFirst 0 = .ok (.aload_n 0, 1) := by decide +kernel
theorem dX10_dropFirst_1 : decode cX10_dropFirst 1 = .ok (.iconst 1, 1) := by decide +kernel
theorem dX10_dropFirst_2 : decode cX10_dropFirst 2 = .ok (.aload_n 0, 1) := by decide +kernel
theorem dX10_dropFirst_3 : decode cX10_dropFirst 3 = .ok (.iconst 0, 1) := by decide +kernel
theorem dX10_dropFirst_4 : decode cX10_dropFirst 4 = .ok (.aload_n 0, 1) := by decide +kernel
theorem dX10_dropFirst_5 : decode cX10_dropFirst 5 = .ok (.arraylength, 1) := by decide +kernel
theorem dX10_dropFirst_6 : decode cX10_dropFirst 6 = .ok (.iconst 1, 1) := by decide +kernel
theorem dX10_dropFirst_7 : decode cX10_dropFirst 7 = .ok (.isub, 1) := by decide +kernel
theorem dX10_dropFirst_8 : decode cX10_dropFirst 8 = .ok (.invokestatic 43, 3) := by decide +kernel
theorem dX10_dropFirst_11 : decode cX10_dropFirst 11 = .ok (.return_, 1) := by decide +kernel
theorem dX10_takeBack_0 : decode cX10_takeBack 0 = .ok (.aload_n 0, 1) := by decide +kernel
theorem dX10_takeBack_1 : decode cX10_takeBack 1 = .ok (.getfield 24, 3) := by decide +kernel
theorem dX10_takeBack_4 : decode cX10_takeBack 4 = .ok (.ifCond .le 68, 3) := by decide +kernel
theorem dX10_takeBack_7 : decode cX10_takeBack 7 = .ok (.aload_n 0, 1) := by decide +kernel
theorem dX10_takeBack_8 : decode cX10_takeBack 8 = .ok (.dup, 1) := by decide +kernel
theorem dX10_takeBack_9 : decode cX10_takeBack 9 = .ok (.getfield 24, 3) := by decide +kernel
theorem dX10_takeBack_12 : decode cX10_takeBack 12 = .ok (.iconst 1, 1) := by decide +kernel
theorem dX10_takeBack_13 : decode cX10_takeBack 13 = .ok (.isub, 1) := by decide +kernel
theorem dX10_takeBack_14 : decode cX10_takeBack 14 = .ok (.putfield 24, 3) := by decide +kernel
theorem dX10_takeBack_17 : decode cX10_takeBack 17 = .ok (.aload_n 0, 1) := by decide +kernel
theorem dX10_takeBack_18 : decode cX10_takeBack 18 = .ok (.getfield 9, 3) := by decide +kernel
theorem dX10_takeBack_21 : decode cX10_takeBack 21 = .ok (.aload_n 0, 1) := by decide +kernel
theorem dX10_takeBack_22 : decode cX10_takeBack 22 = .ok (.getfield 24, 3) := by decide +kernel
theorem dX10_takeBack_25 : decode cX10_takeBack 25 = .ok (.iaload, 1) := by decide +kernel
theorem dX10_takeBack_26 : decode cX10_takeBack 26 = .ok (.istore_n 2, 1) := by decide +kernel
theorem dX10_takeBack_27 : decode cX10_takeBack 27 = .ok (.aload_n 1, 1) := by decide +kernel
theorem dX10_takeBack_28 : decode cX10_takeBack 28 = .ok (.getfield 32, 3) := by decide +kernel
theorem dX10_takeBack_31 : decode cX10_takeBack 31 = .ok (.iload_n 2, 1) := by decide +kernel
theorem dX10_takeBack_32 : decode cX10_takeBack 32 = .ok (.aload_n 0, 1) := by decide +kernel
theorem dX10_takeBack_33 : decode cX10_takeBack 33 = .ok (.getfield 15, 3) := by decide +kernel
theorem dX10_takeBack_36 : decode cX10_takeBack 36 = .ok (.aload_n 0, 1) := by decide +kernel
theorem dX10_takeBack_37 : decode cX10_takeBack 37 = .ok (.getfield 24, 3) := by decide +kernel
theorem dX10_takeBack_40 : decode cX10_takeBack 40 = .ok (.iaload, 1) := by decide +kernel
theorem dX10_takeBack_41 : decode cX10_takeBack 41 = .ok (.iastore, 1) := by decide +kernel
theorem dX10_takeBack_42 : decode cX10_takeBack 42 = .ok (.aload_n 1, 1) := by decide +kernel
theorem dX10_takeBack_43 : decode cX10_takeBack 43 = .ok (.getfield 37, 3) := by decide +kernel
theorem dX10_takeBack_46 : decode cX10_takeBack 46 = .ok (.iload_n 2, 1) := by decide +kernel
theorem dX10_takeBack_47 : decode cX10_takeBack 47 = .ok (.aload_n 0, 1) := by decide +kernel
theorem dX10_takeBack_48 : decode cX10_takeBack 48 = .ok (.getfield 18, 3) := by decide +kernel
theorem dX10_takeBack_51 : decode cX10_takeBack 51 = .ok (.aload_n 0, 1) := by decide +kernel
theorem dX10_takeBack_52 : decode cX10_takeBack 52 = .ok (.getfield 24, 3) := by decide +kernel
theorem dX10_takeBack_55 : decode cX10_takeBack 55 = .ok (.iaload, 1) := by decide +kernel
theorem dX10_takeBack_56 : decode cX10_takeBack 56 = .ok (.iastore, 1) := by decide +kernel
theorem dX10_takeBack_57 : decode cX10_takeBack 57 = .ok (.aload_n 1, 1) := by decide +kernel
theorem dX10_takeBack_58 : decode cX10_takeBack 58 = .ok (.getfield 40, 3) := by decide +kernel
theorem dX10_takeBack_61 : decode cX10_takeBack 61 = .ok (.iload_n 2, 1) := by decide +kernel
theorem dX10_takeBack_62 : decode cX10_takeBack 62 = .ok (.aload_n 0, 1) := by decide +kernel
theorem dX10_takeBack_63 : decode cX10_takeBack 63 = .ok (.getfield 21, 3) := by decide +kernel
theorem dX10_takeBack_66 : decode cX10_takeBack 66 = .ok (.aload_n 0, 1) := by decide +kernel
theorem dX10_takeBack_67 : decode cX10_takeBack 67 = .ok (.getfield 24, 3) := by decide +kernel
theorem dX10_takeBack_70 : decode cX10_takeBack 70 = .ok (.iaload, 1) := by decide +kernel
theorem dX10_takeBack_71 : decode cX10_takeBack 71 = .ok (.iastore, 1) := by decide +kernel
theorem dX10_takeBack_72 : decode cX10_takeBack 72 = .ok (.return_, 1) := by decide +kernel
theorem dX11_init_0 : decode cX11_init 0 = .ok (.aload_n 0, 1) := by decide +kernel
theorem dX11_init_1 : decode cX11_init 1 = .ok (.invokespecial 5, 3) := by decide +kernel
theorem dX11_init_4 : decode cX11_init 4 = .ok (.aload_n 0, 1) := by decide +kernel
theorem dX11_init_5 : decode cX11_init 5 = .ok (.sipush 700, 3) := by decide +kernel
theorem dX11_init_8 : decode cX11_init 8 = .ok (.newarray .int, 2) := by decide +kernel
theorem dX11_init_10 : decode cX11_init 10 = .ok (.putfield 11, 3) := by decide +kernel
theorem dX11_init_13 : decode cX11_init 13 = .ok (.aload_n 0, 1) := by decide +kernel
theorem dX11_init_14 : decode cX11_init 14 = .ok (.new 15, 3) := by decide +kernel
theorem dX11_init_17 : decode cX11_init 17 = .ok (.dup, 1) := by decide +kernel
theorem dX11_init_18 : decode cX11_init 18 = .ok (.invokespecial 17, 3) := by decide +kernel
theorem dX11_init_21 : decode cX11_init 21 = .ok (.putfield 18, 3) := by decide +kernel
theorem dX11_init_24 : decode cX11_init 24 = .ok (.aload_n 0, 1) := by decide +kernel
theorem dX11_init_25 : decode cX11_init 25 = .ok (.new 22, 3) := by decide +kernel
theorem dX11_init_28 : decode cX11_init 28 = .ok (.dup, 1) := by decide +kernel
theorem dX11_init_29 : decode cX11_init 29 = .ok (.invokespecial 24, 3) := by decide +kernel
theorem dX11_init_32 : decode cX11_init 32 = .ok (.putfield 25, 3) := by decide +kernel
theorem dX11_init_35 : decode cX11_init 35 = .ok (.aload_n 0, 1) := by decide +kernel
theorem dX11_init_36 : decode cX11_init 36 = .ok (.new 22, 3) := by decide +kernel
theorem dX11_init_39 : decode cX11_init 39 = .ok (.dup, 1) := by decide +kernel
theorem dX11_init_40 : decode cX11_init 40 = .ok (.invokespecial 24, 3) := by decide +kernel
theorem dX11_init_43 : decode cX11_init 43 = .ok (.putfield 29, 3) := by decide +kernel
theorem dX11_init_46 : decode cX11_init 46 = .ok (.aload_n 0, 1) := by decide +kernel
theorem dX11_init_47 : decode cX11_init 47 = .ok (.new 32, 3) := by decide +kernel
theorem dX11_init_50 : decode cX11_init 50 = .ok (.dup, 1) := by decide +kernel
theorem dX11_init_51 : decode cX11_init 51 = .ok (.invokespecial 34, 3) := by decide +kernel
theorem dX11_init_54 : decode cX11_init 54 = .ok (.putfield 35, 3) := by decide +kernel
theorem dX11_init_57 : decode cX11_init 57 = .ok (.aload_n 0, 1) := by decide +kernel
theorem dX11_init_58 : decode cX11_init 58 = .ok (.new 32, 3) := by decide +kernel
theorem dX11_init_61 : decode cX11_init 61 = .ok (.dup, 1) := by decide +kernel
theorem dX11_init_62 : decode cX11_init 62 = .ok (.invokespecial 34, 3) := by decide +kernel
theorem dX11_init_65 : decode cX11_init 65 = .ok (.putfield 39, 3) := by decide +kernel
theorem dX11_init_68 : decode cX11_init 68 = .ok (.aload_n 0, 1) := by decide +kernel
theorem dX11_init_69 : decode cX11_init 69 = .ok (.new 32, 3) := by decide +kernel
theorem dX11_init_72 : decode cX11_init 72 = .ok (.dup, 1) := by decide +kernel
theorem dX11_init_73 : decode cX11_init 73 = .ok (.invokespecial 34, 3) := by decide +kernel
theorem dX11_init_76 : decode cX11_init 76 = .ok (.putfield 42, 3) := by decide +kernel
theorem dX11_init_79 : decode cX11_init 79 = .ok (.aload_n 0, 1) := by decide +kernel
theorem dX11_init_80 : decode cX11_init 80 = .ok (.new 45, 3) := by decide +kernel
theorem dX11_init_83 : decode cX11_init 83 = .ok (.dup, 1) := by decide +kernel
theorem dX11_init_84 : decode cX11_init 84 = .ok (.invokespecial 47, 3) := by decide +kernel
theorem dX11_init_87 : decode cX11_init 87 = .ok (.putfield 48, 3) := by decide +kernel
theorem dX11_init_90 : decode cX11_init 90 = .ok (.aload_n 0, 1) := by decide +kernel
theorem dX11_init_91 : decode cX11_init 91 = .ok (.new 52, 3) := by decide +kernel
theorem dX11_init_94 : decode cX11_init 94 = .ok (.dup, 1) := by decide +kernel
theorem dX11_init_95 : decode cX11_init 95 = .ok (.invokespecial 54, 3) := by decide +kernel
theorem dX11_init_98 : decode cX11_init 98 = .ok (.putfield 55, 3) := by decide +kernel
theorem dX11_init_101 : decode cX11_init 101 = .ok (.aload_n 0, 1) := by decide +kernel
theorem dX11_init_102 : decode cX11_init 102 = .ok (.new 59, 3) := by decide +kernel
theorem dX11_init_105 : decode cX11_init 105 = .ok (.dup, 1) := by decide +kernel
theorem dX11_init_106 : decode cX11_init 106 = .ok (.invokespecial 61, 3) := by decide +kernel
theorem dX11_init_109 : decode cX11_init 109 = .ok (.putfield 62, 3) := by decide +kernel
theorem dX11_init_112 : decode cX11_init 112 = .ok (.aload_n 0, 1) := by decide +kernel
theorem dX11_init_113 : decode cX11_init 113 = .ok (.new 66, 3) := by decide +kernel
theorem dX11_init_116 : decode cX11_init 116 = .ok (.dup, 1) := by decide +kernel
theorem dX11_init_117 : decode cX11_init 117 = .ok (.invokespecial 68, 3) := by decide +kernel
theorem dX11_init_120 : decode cX11_init 120 = .ok (.putfield 69, 3) := by decide +kernel
theorem dX11_init_123 : decode cX11_init 123 = .ok (.aload_n 0, 1) := by decide +kernel
theorem dX11_init_124 : decode cX11_init 124 = .ok (.new 73, 3) := by decide +kernel
theorem dX11_init_127 : decode cX11_init 127 = .ok (.dup, 1) := by decide +kernel
theorem dX11_init_128 : decode cX11_init 128 = .ok (.invokespecial 75, 3) := by decide +kernel
theorem dX11_init_131 : decode cX11_init 131 = .ok (.putfield 76, 3) := by decide +kernel
theorem dX11_init_134 : decode cX11_init 134 = .ok (.aload_n 0, 1) := by decide +kernel
theorem dX11_init_135 : decode cX11_init 135 = .ok (.bipush 6, 2) := by decide +kernel
theorem dX11_init_137 : decode cX11_init 137 = .ok (.newarray .int, 2) := by decide +kernel
theorem dX11_init_139 : decode cX11_init 139 = .ok (.putfield 80, 3) := by decide +kernel
theorem dX11_init_142 : decode cX11_init 142 = .ok (.aload_n 0, 1) := by decide +kernel
theorem dX11_init_143 : decode cX11_init 143 = .ok (.bipush 60, 2) := by decide +kernel
theorem dX11_init_145 : decode cX11_init 145 = .ok (.newarray .int, 2) := by decide +kernel
theorem dX11_init_147 : decode cX11_init 147 = .ok (.putfield 83, 3) := by decide +kernel
theorem dX11_init_150 : decode cX11_init 150 = .ok (.return_, 1) := by decide +kernel
theorem dX11_feed_0 : decode cX11_feed 0 = .ok (.aload_n 0, 1) := by decide +kernel
theorem dX11_feed_1 : decode cX11_feed 1 = .ok (.getfield 86, 3) := by decide +kernel
theorem dX11_feed_4 : decode cX11_feed 4 = .ok (.bipush 20, 2) := by decide +kernel
theorem dX11_feed_6 : decode cX11_feed 6 = .ok (.iadd, 1) := by decide +kernel
theorem dX11_feed_7 : decode cX11_feed 7 = .ok (.sipush 700, 3) := by decide +kernel
theorem dX11_feed_10 : decode cX11_feed 10 = .ok (.if_icmp .le 5, 3) := by decide +kernel
theorem dX11_feed_13 : decode cX11_feed 13 = .ok (.iconst (-1), 1) := by decide +kernel
theorem dX11_feed_14 : decode cX11_feed 14 = .ok (.ireturn, 1) := by decide +kernel
theorem dX11_feed_15 : decode cX11_feed 15 = .ok (.aload_n 0, 1) := by decide +kernel
theorem dX11_feed_16 : decode cX11_feed 16 = .ok (.iload_n 1, 1) := by decide +kernel
theorem dX11_feed_17 : decode cX11_feed 17 = .ok (.invokevirtual 90, 3) := by decide +kernel
theorem dX11_feed_20 : decode cX11_feed 20 = .ok (.aload_n 0, 1) := by decide +kernel
theorem dX11_feed_21 : decode cX11_feed 21 = .ok (.iload_n 2, 1) := by decide +kernel
theorem dX11_feed_22 : decode cX11_feed 22 = .ok (.invokevirtual 90, 3) := by decide +kernel
theorem dX11_feed_25 : decode cX11_feed 25 = .ok (.aload_n 0, 1) := by decide +kernel
theorem dX11_feed_26 : decode cX11_feed 26 = .ok (.iload_n 3, 1) := by decide +kernel
theorem dX11_feed_27 : decode cX11_feed 27 = .ok (.invokevirtual 90, 3) := by decide +kernel
theorem dX11_feed_30 : decode cX11_feed 30 = .ok (.aload_n 0, 1) := by decide +kernel
theorem dX11_feed_31 : decode cX11_feed 31 = .ok (.iload 4, 2) := by decide +kernel
theorem dX11_feed_33 : decode cX11_feed 33 = .ok (.invokevirtual 90, 3) := by decide +kernel
theorem dX11_feed_36 : decode cX11_feed 36 = .ok (.aload_n 0, 1) := by decide +kernel
theorem dX11_feed_37 : decode cX11_feed 37 = .ok (.iload 5, 2) := by decide +kernel
theorem dX11_feed_39 : decode cX11_feed 39 = .ok (.invokevirtual 90, 3) := by decide +kernel
theorem dX11_feed_42 : decode cX11_feed 42 = .ok (.aload_n 0, 1) := by decide +kernel
theorem dX11_feed_43 : decode cX11_feed 43 = .ok (.getfield 86, 3) := by decide +kernel
theorem dX11_feed_46 : decode cX11_feed 46 = .ok (.ireturn, 1) := by decide +kernel
theorem dX11_putBytes_0 : decode cX11_putBytes 0 = .ok (.bipush 24, 2) := by decide +kernel
theorem dX11_putBytes_2 : decode cX11_putBytes 2 = .ok (.istore_n 2, 1) := by decide +kernel
theorem dX11_putBytes_3 : decode cX11_putBytes 3 = .ok (.iload_n 2, 1) := by decide +kernel
theorem dX11_putBytes_4 : decode cX11_putBytes 4 = .ok (.ifCond .lt 51, 3) := by decide +kernel
theorem dX11_putBytes_7 : decode cX11_putBytes 7 = .ok (.aload_n 0, 1) := by decide +kernel
theorem dX11_putBytes_8 : decode cX11_putBytes 8 = .ok (.getfield 86, 3) := by decide +kernel
theorem dX11_putBytes_11 : decode cX11_putBytes 11 = .ok (.ifCond .lt 38, 3) := by decide +kernel
theorem dX11_putBytes_14 : decode cX11_putBytes 14 = .ok (.aload_n 0, 1) := by decide +kernel
theorem dX11_putBytes_15 : decode cX11_putBytes 15 = .ok (.getfield 86, 3) := by decide +kernel
theorem dX11_putBytes_18 : decode cX11_putBytes 18 = .ok (.aload_n 0, 1) := by decide +kernel
theorem dX11_putBytes_19 : decode cX11_putBytes 19 = .ok (.getfield 11, 3) := by decide +kernel
theorem dX11_putBytes_22 : decode cX11_putBytes 22 = .ok (.arraylength, 1) := by decide +kernel
theorem dX11_putBytes_23 : decode cX11_putBytes 23 = .ok (.if_icmp .ge 26, 3) := by decide +kernel
theorem dX11_putBytes_26 : decode cX11_putBytes 26 = .ok (.aload_n 0, 1) := by decide +kernel
theorem dX11_putBytes_27 : decode cX11_putBytes 27 = .ok (.getfield 11, 3) := by decide +kernel
theorem dX11_putBytes_30 : decode cX11_putBytes 30 = .ok (.aload_n 0, 1) := by decide +kernel
theorem dX11_putBytes_31 : decode cX11_putBytes 31 = .ok (.dup, 1) := by decide +kernel
theorem dX11_putBytes_32 : decode cX11_putBytes 32 = .ok (.getfield 86, 3) := by decide +kernel
theorem dX11_putBytes_35 : decode cX11_putBytes 35 = .ok (.dup_x1, 1) := by decide +kernel
theorem dX11_putBytes_36 : decode cX11_putBytes 36 = .ok (.iconst 1, 1) := by decide +kernel
theorem dX11_putBytes_37 : decode cX11_putBytes 37 = .ok (.iadd, 1) := by decide +kernel
theorem dX11_putBytes_38 : decode cX11_putBytes 38 = .ok (.putfield 86, 3) := by decide +kernel
theorem dX11_putBytes_41 : decode cX11_putBytes 41 = .ok (.iload_n 1, 1) := by decide +kernel
theorem dX11_putBytes_42 : decode cX11_putBytes 42 = .ok (.iload_n 2, 1) := by decide +kernel
theorem dX11_putBytes_43 : decode cX11_putBytes 43 = .ok (.iushr, 1) := by decide +kernel
theorem dX11_putBytes_44 : decode cX11_putBytes 44 = .ok (.sipush 255, 3) := by decide +kernel
theorem dX11_putBytes_47 : decode cX11_putBytes 47 = .ok (.iand, 1) := by decide +kernel
theorem dX11_putBytes_48 : decode cX11_putBytes 48 = .ok (.iastore, 1) := by decide +kernel
theorem dX11_putBytes_49 : decode cX11_putBytes 49 = .ok (.iinc 2 (-8), 3) := by decide +kernel
theorem dX11_putBytes_52 : decode cX11_putBytes 52 = .ok (.goto (-49), 3) := by decide +kernel
theorem dX11_putBytes_55 : decode cX11_putBytes 55 = .ok (.return_, 1) := by decide +kernel
theorem dX11_text_0 : decode cX11_text 0 = .ok (.iload_n 1, 1) := by decide +kernel
theorem dX11_text_1 : decode cX11_text 1 = .ok (.ifCond .lt 11, 3) := by decide +kernel
theorem dX11_text_4 : decode cX11_text 4 = .ok (.iload_n 1, 1) := by decide +kernel
theorem dX11_text_5 : decode cX11_text 5 = .ok (.aload_n 0, 1) := by decide +kernel
theorem dX11_text_6 : decode cX11_text 6 = .ok (.getfield 86, 3) := by decide +kernel
theorem dX11_text_9 : decode cX11_text 9 = .ok (.if_icmp .le 6, 3) := by decide +kernel
theorem dX11_text_12 : decode cX11_text 12 = .ok (.bipush (-2), 2) := by decide +kernel
theorem dX11_text_14 : decode cX11_text 14 = .ok (.ireturn, 1) := by decide +kernel
theorem dX11_text_15 : decode cX11_text 15 = .ok (.aload_n 0, 1) := by decide +kernel
theorem dX11_text_16 : decode cX11_text 16 = .ok (.iconst 0, 1) := by decide +kernel
theorem dX11_text_17 : decode cX11_text 17 = .ok (.putfield 86, 3) := by decide +kernel
theorem dX11_text_20 : decode cX11_text 20 = .ok (.aload_n 0, 1) := by decide +kernel
theorem dX11_text_21 : decode cX11_text 21 = .ok (.getfield 18, 3) := by decide +kernel
theorem dX11_text_24 : decode cX11_text 24 = .ok (.aload_n 0, 1) := by decide +kernel
theorem dX11_text_25 : decode cX11_text 25 = .ok (.getfield 11, 3) := by decide +kernel
theorem dX11_text_28 : decode cX11_text 28 = .ok (.iload_n 1, 1) := by decide +kernel
theorem dX11_text_29 : decode cX11_text 29 = .ok (.aload_n 0, 1) := by decide +kernel
theorem dX11_text_30 : decode cX11_text 30 = .ok (.getfield 29, 3) := by decide +kernel
theorem dX11_text_33 : decode cX11_text 33 = .ok (.invokevirtual 94, 3) := by decide +kernel
theorem dX11_text_36 : decode cX11_text 36 = .ok (.istore_n 2, 1) := by decide +kernel
theorem dX11_text_37 : decode cX11_text 37 = .ok (.iload_n 2, 1) := by decide +kernel
theorem dX11_text_38 : decode cX11_text 38 = .ok (.ifCond .ge 5, 3) := by decide +kernel
theorem dX11_text_41 : decode cX11_text 41 = .ok (.iconst (-1), 1) := by decide +kernel
theorem dX11_text_42 : decode cX11_text 42 = .ok (.ireturn, 1) := by decide +kernel
theorem dX11_text_43 : decode cX11_text 43 = .ok (.aload_n 0, 1) := by decide +kernel
theorem dX11_text_44 : decode cX11_text 44 = .ok (.getfield 25, 3) := by decide +kernel
theorem dX11_text_47 : decode cX11_text 47 = .ok (.astore_n 3, 1) := by decide +kernel
theorem dX11_text_48 : decode cX11_text 48 = .ok (.aload_n 0, 1) := by decide +kernel
theorem dX11_text_49 : decode cX11_text 49 = .ok (.aload_n 0, 1) := by decide +kernel
theorem dX11_text_50 : decode cX11_text 50 = .ok (.getfield 29, 3) := by decide +kernel
theorem dX11_text_53 : decode cX11_text 53 = .ok (.putfield 25, 3) := by decide +kernel
theorem dX11_text_56 : decode cX11_text 56 = .ok (.aload_n 0, 1) := by decide +kernel
theorem dX11_text_57 : decode cX11_text 57 = .ok (.aload_n 3, 1) := by decide +kernel
theorem dX11_text_58 : decode cX11_text 58 = .ok (.putfield 29, 3) := by decide +kernel
theorem dX11_text_61 : decode cX11_text 61 = .ok (.aload_n 0, 1) := by decide +kernel
theorem dX11_text_62 : decode cX11_text 62 = .ok (.getfield 35, 3) := by decide +kernel
theorem dX11_text_65 : decode cX11_text 65 = .ok (.aload_n 0, 1) := by decide +kernel
theorem dX11_text_66 : decode cX11_text 66 = .ok (.getfield 25, 3) := by decide +kernel
theorem dX11_text_69 : decode cX11_text 69 = .ok (.invokevirtual 98, 3) := by decide +kernel
theorem dX11_text_72 : decode cX11_text 72 = .ok (.aload_n 0, 1) := by decide +kernel
theorem dX11_text_73 : decode cX11_text 73 = .ok (.iconst 0, 1) := by decide +kernel
theorem dX11_text_74 : decode cX11_text 74 = .ok (.putfield 102, 3) := by decide +kernel
theorem dX11_text_77 : decode cX11_text 77 = .ok (.aload_n 0, 1) := by decide +kernel
theorem dX11_text_78 : decode cX11_text 78 = .ok (.getfield 55, 3) := by decide +kernel
theorem dX11_text_81 : decode cX11_text 81 = .ok (.invokevirtual 106, 3) := by decide +kernel
theorem dX11_text_84 : decode cX11_text 84 = .ok (.aload_n 0, 1) := by decide +kernel
theorem dX11_text_85 : decode cX11_text 85 = .ok (.getfield 62, 3) := by decide +kernel
theorem dX11_text_88 : decode cX11_text 88 = .ok (.invokevirtual 109, 3) := by decide +kernel
theorem dX11_text_91 : decode cX11_text 91 = .ok (.iload_n 2, 1) := by decide +kernel
theorem dX11_text_92 : decode cX11_text 92 = .ok (.ireturn, 1) := by decide +kernel
theorem dX11_fault_0 : decode cX11_fault 0 = .ok (.iload_n 1, 1) := by decide +kernel
theorem dX11_fault_1 : decode cX11_fault 1 = .ok (.ifCond .ne 11, 3) := by decide +kernel
theorem dX11_fault_4 : decode cX11_fault 4 = .ok (.aload_n 0, 1) := by decide +kernel
theorem dX11_fault_5 : decode cX11_fault 5 = .ok (.getfield 18, 3) := by decide +kernel
theorem dX11_fault_8 : decode cX11_fault 8 = .ok (.getfield 110, 3) := by decide +kernel
theorem dX11_fault_11 : decode cX11_fault 11 = .ok (.ireturn, 1) := by decide +kernel
theorem dX11_fault_12 : decode cX11_fault 12 = .ok (.iload_n 1, 1) := by decide +kernel
theorem dX11_fault_13 : decode cX11_fault 13 = .ok (.iconst 1, 1) := by decide +kernel
theorem dX11_fault_14 : decode cX11_fault 14 = .ok (.if_icmp .ne 13, 3) := by decide +kernel
theorem dX11_fault_17 : decode cX11_fault 17 = .ok (.aload_n 0, 1) := by decide +kernel
theorem dX11_fault_18 : decode cX11_fault 18 = .ok (.getfield 18, 3) := by decide +kernel
theorem dX11_fault_21 : decode cX11_fault 21 = .ok (.getfield 113, 3) := by decide +kernel
theorem dX11_fault_24 : decode cX11_fault 24 = .ok (.goto 4, 3) := by decide +kernel
theorem dX11_fault_27 : decode cX11_fault 27 = .ok (.iconst (-1), 1) := by decide +kernel
theorem dX11_fault_28 : decode cX11_fault 28 = .ok (.ireturn, 1) := by decide +kernel
theorem dX11_named_0 : decode cX11_named 0 = .ok (.aload_n 0, 1) := by decide +kernel
theorem dX11_named_1 : decode cX11_named 1 = .ok (.getfield 25, 3) := by decide +kernel
theorem dX11_named_4 : decode cX11_named 4 = .ok (.iload_n 1, 1) := by decide +kernel
theorem dX11_named_5 : decode cX11_named 5 = .ok (.invokevirtual 116, 3) := by decide +kernel
theorem dX11_named_8 : decode cX11_named 8 = .ok (.ireturn, 1) := by decide +kernel
theorem dX11_man_0 : decode cX11_man 0 = .ok (.aload_n 0, 1) := by decide +kernel
theorem dX11_man_1 : decode cX11_man 1 = .ok (.iload_n 1, 1) := by decide +kernel
theorem dX11_man_2 : decode cX11_man 2 = .ok (.invokevirtual 120, 3) := by decide +kernel
theorem dX11_man_5 : decode cX11_man 5 = .ok (.ifCond .ne 13, 3) := by decide +kernel
theorem dX11_man_8 : decode cX11_man 8 = .ok (.new 124, 3) := by decide +kernel
theorem dX11_man_11 : decode cX11_man 11 = .ok (.dup, 1) := by decide +kernel
theorem dX11_man_12 : decode cX11_man 12 = .ok (.ldc 126, 2) := by decide +kernel
theorem dX11_man_14 : decode cX11_man 14 = .ok (.invokespecial 128, 3) := by decide +kernel
theorem dX11_man_17 : decode cX11_man 17 = .ok (.athrow, 1) := by decide +kernel
theorem dX11_man_18 : decode cX11_man 18 = .ok (.aload_n 0, 1) := by decide +kernel
theorem dX11_man_19 : decode cX11_man 19 = .ok (.getfield 35, 3) := by decide +kernel
theorem dX11_man_22 : decode cX11_man 22 = .ok (.iload_n 1, 1) := by decide +kernel
theorem dX11_man_23 : decode cX11_man 23 = .ok (.invokevirtual 131, 3) := by decide +kernel
theorem dX11_man_26 : decode cX11_man 26 = .ok (.istore_n 3, 1) := by decide +kernel
theorem dX11_man_27 : decode cX11_man 27 = .ok (.iload_n 2, 1) := by decide +kernel
theorem dX11_man_28 : decode cX11_man 28 = .ok (.tableswitch 153 0 7 #[48, 58, 60, 79, 110, 120, 129, 143], 48) := by decide +kernel
theorem dX11_man_76 : decode cX11_man 76 = .ok (.aload_n 0, 1) := by decide +kernel
theorem dX11_man_77 : decode cX11_man 77 = .ok (.getfield 25, 3) := by decide +kernel
theorem dX11_man_80 : decode cX11_man 80 = .ok (.getfield 134, 3) := by decide +kernel
theorem dX11_man_83 : decode cX11_man 83 = .ok (.iload_n 1, 1) := by decide +kernel
theorem dX11_man_84 : decode cX11_man 84 = .ok (.iaload, 1) := by decide +kernel
theorem dX11_man_85 : decode cX11_man 85 = .ok (.ireturn, 1) := by decide +kernel
theorem dX11_man_86 : decode cX11_man 86 = .ok (.iload_n 3, 1) := by decide +kernel
theorem dX11_man_87 : decode cX11_man 87 = .ok (.ireturn, 1) := by decide +kernel
theorem dX11_man_88 : decode cX11_man 88 = .ok (.iload_n 3, 1) := by decide +kernel
theorem dX11_man_89 : decode cX11_man 89 = .ok (.ifCond .ne 8, 3) := by decide +kernel
theorem dX11_man_92 : decode cX11_man 92 = .ok (.bipush (-2), 2) := by decide +kernel
theorem dX11_man_94 : decode cX11_man 94 = .ok (.goto 12, 3) := by decide +kernel
theorem dX11_man_97 : decode cX11_man 97 = .ok (.aload_n 0, 1) := by decide +kernel
theorem dX11_man_98 : decode cX11_man 98 = .ok (.getfield 35, 3) := by decide +kernel
theorem dX11_man_101 : decode cX11_man 101 = .ok (.getfield 137, 3) := by decide +kernel
theorem dX11_man_104 : decode cX11_man 104 = .ok (.iload_n 1, 1) := by decide +kernel
theorem dX11_man_105 : decode cX11_man 105 = .ok (.iaload, 1) := by decide +kernel
theorem dX11_man_106 : decode cX11_man 106 = .ok (.ireturn, 1) := by decide +kernel
theorem dX11_man_107 : decode cX11_man 107 = .ok (.iload_n 3, 1) := by decide +kernel
theorem dX11_man_108 : decode cX11_man 108 = .ok (.ifCond .ne 8, 3) := by decide +kernel
theorem dX11_man_111 : decode cX11_man 111 = .ok (.bipush (-2), 2) := by decide +kernel
theorem dX11_man_113 : decode cX11_man 113 = .ok (.goto 24, 3) := by decide +kernel
theorem dX11_man_116 : decode cX11_man 116 = .ok (.aload_n 0, 1) := by decide +kernel
theorem dX11_man_117 : decode cX11_man 117 = .ok (.getfield 35, 3) := by decide +kernel
theorem dX11_man_120 : decode cX11_man 120 = .ok (.getfield 140, 3) := by decide +kernel
theorem dX11_man_123 : decode cX11_man 123 = .ok (.iload_n 1, 1) := by decide +kernel
theorem dX11_man_124 : decode cX11_man 124 = .ok (.iaload, 1) := by decide +kernel
theorem dX11_man_125 : decode cX11_man 125 = .ok (.aload_n 0, 1) := by decide +kernel
theorem dX11_man_126 : decode cX11_man 126 = .ok (.getfield 35, 3) := by decide +kernel
theorem dX11_man_129 : decode cX11_man 129 = .ok (.getfield 141, 3) := by decide +kernel
theorem dX11_man_132 : decode cX11_man 132 = .ok (.iload_n 1, 1) := by decide +kernel
theorem dX11_man_133 : decode cX11_man 133 = .ok (.iaload, 1) := by decide +kernel
theorem dX11_man_134 : decode cX11_man 134 = .ok (.isub, 1) := by decide +kernel
theorem dX11_man_135 : decode cX11_man 135 = .ok (.iconst 1, 1) := by decide +kernel
theorem dX11_man_136 : decode cX11_man 136 = .ok (.isub, 1) := by decide +kernel
theorem dX11_man_137 : decode cX11_man 137 = .ok (.ireturn, 1) := by decide +kernel
theorem dX11_man_138 : decode cX11_man 138 = .ok (.aload_n 0, 1) := by decide +kernel
theorem dX11_man_139 : decode cX11_man 139 = .ok (.getfield 35, 3) := by decide +kernel
theorem dX11_man_142 : decode cX11_man 142 = .ok (.getfield 144, 3) := by decide +kernel
theorem dX11_man_145 : decode cX11_man 145 = .ok (.iload_n 1, 1) := by decide +kernel
theorem dX11_man_146 : decode cX11_man 146 = .ok (.iaload, 1) := by decide +kernel
theorem dX11_man_147 : decode cX11_man 147 = .ok (.ireturn, 1) := by decide +kernel
theorem dX11_man_148 : decode cX11_man 148 = .ok (.aload_n 0, 1) := by decide +kernel
theorem dX11_man_149 : decode cX11_man 149 = .ok (.getfield 35, 3) := by decide +kernel
theorem dX11_man_152 : decode cX11_man 152 = .ok (.iload_n 1, 1) := by decide +kernel
theorem dX11_man_153 : decode cX11_man 153 = .ok (.invokevirtual 147, 3) := by decide +kernel
theorem dX11_man_156 : decode cX11_man 156 = .ok (.ireturn, 1) := by decide +kernel
theorem dX11_man_157 : decode cX11_man 157 = .ok (.aload_n 0, 1) := by decide +kernel
theorem dX11_man_158 : decode cX11_man 158 = .ok (.iload_n 1, 1) := by decide +kernel
theorem dX11_man_159 : decode cX11_man 159 = .ok (.invokevirtual 150, 3) := by decide +kernel
theorem dX11_man_162 : decode cX11_man 162 = .ok (.ifCond .eq 7, 3) := by decide +kernel
theorem dX11_man_165 : decode cX11_man 165 = .ok (.iconst 1, 1) := by decide +kernel
theorem dX11_man_166 : decode cX11_man 166 = .ok (.goto 4, 3) := by decide +kernel
theorem dX11_man_169 : decode cX11_man 169 = .ok (.iconst 0, 1) := by decide +kernel
theorem dX11_man_170 : decode cX11_man 170 = .ok (.ireturn, 1) := by decide +kernel
theorem dX11_man_171 : decode cX11_man 171 = .ok (.aload_n 0, 1) := by decide +kernel
theorem dX11_man_172 : decode cX11_man 172 = .ok (.getfield 35, 3) := by decide +kernel
theorem dX11_man_175 : decode cX11_man 175 = .ok (.getfield 153, 3) := by decide +kernel
theorem dX11_man_178 : decode cX11_man 178 = .ok (.iload_n 1, 1) := by decide +kernel
theorem dX11_man_179 : decode cX11_man 179 = .ok (.iaload, 1) := by decide +kernel
theorem dX11_man_180 : decode cX11_man 180 = .ok (.ireturn, 1) := by decide +kernel
theorem dX11_man_181 : decode cX11_man 181 = .ok (.new 156, 3) := by decide +kernel
theorem dX11_man_184 : decode cX11_man 184 = .ok (.dup, 1) := by decide +kernel
theorem dX11_man_185 : decode cX11_man 185 = .ok (.ldc 158, 2) := by decide +kernel
theorem dX11_man_187 : decode cX11_man 187 = .ok (.invokespecial 160, 3) := by decide +kernel
theorem dX11_man_190 : decode cX11_man 190 = .ok (.athrow, 1) := by decide +kernel
theorem dX11_june_0 : decode cX11_june 0 = .ok (.aload_n 0, 1) := by decide +kernel
theorem dX11_june_1 : decode cX11_june 1 = .ok (.iload_n 1, 1) := by decide +kernel
theorem dX11_june_2 : decode cX11_june 2 = .ok (.invokevirtual 120, 3) := by decide +kernel
theorem dX11_june_5 : decode cX11_june 5 = .ok (.ifCond .eq 10, 3) := by decide +kernel
theorem dX11_june_8 : decode cX11_june 8 = .ok (.iload_n 2, 1) := by decide +kernel
theorem dX11_june_9 : decode cX11_june 9 = .ok (.invokestatic 161, 3) := by decide +kernel
theorem dX11_june_12 : decode cX11_june 12 = .ok (.ifCond .ne 5, 3) := by decide +kernel
theorem dX11_june_15 : decode cX11_june 15 = .ok (.iconst (-1), 1) := by decide +kernel
theorem dX11_june_16 : decode cX11_june 16 = .ok (.ireturn, 1) := by decide +kernel
theorem dX11_june_17 : decode cX11_june 17 = .ok (.aload_n 0, 1) := by decide +kernel
theorem dX11_june_18 : decode cX11_june 18 = .ok (.getfield 25, 3) := by decide +kernel
theorem dX11_june_21 : decode cX11_june 21 = .ok (.iload_n 1, 1) := by decide +kernel
theorem dX11_june_22 : decode cX11_june 22 = .ok (.iload_n 2, 1) := by decide +kernel
theorem dX11_june_23 : decode cX11_june 23 = .ok (.invokevirtual 164, 3) := by decide +kernel
theorem dX11_june_26 : decode cX11_june 26 = .ok (.ifCond .ne 5, 3) := by decide +kernel
theorem dX11_june_29 : decode cX11_june 29 = .ok (.iconst 0, 1) := by decide +kernel
theorem dX11_june_30 : decode cX11_june 30 = .ok (.ireturn, 1) := by decide +kernel
theorem dX11_june_31 : decode cX11_june 31 = .ok (.aload_n 0, 1) := by decide +kernel
theorem dX11_june_32 : decode cX11_june 32 = .ok (.getfield 35, 3) := by decide +kernel
theorem dX11_june_35 : decode cX11_june 35 = .ok (.iload_n 1, 1) := by decide +kernel
theorem dX11_june_36 : decode cX11_june 36 = .ok (.iload_n 2, 1) := by decide +kernel
theorem dX11_june_37 : decode cX11_june 37 = .ok (.invokevirtual 168, 3) := by decide +kernel
theorem dX11_june_40 : decode cX11_june 40 = .ok (.ifCond .eq 7, 3) := by decide +kernel
theorem dX11_june_43 : decode cX11_june 43 = .ok (.iconst 2, 1) := by decide +kernel
theorem dX11_june_44 : decode cX11_june 44 = .ok (.goto 4, 3) := by decide +kernel
theorem dX11_june_47 : decode cX11_june 47 = .ok (.iconst 1, 1) := by decide +kernel
theorem dX11_june_48 : decode cX11_june 48 = .ok (.ireturn, 1) := by decide +kernel
theorem dX11_lenders_0 : decode cX11_lenders 0 = .ok (.aload_n 0, 1) := by decide +kernel
theorem dX11_lenders_1 : decode cX11_lenders 1 = .ok (.iload_n 1, 1) := by decide +kernel
theorem dX11_lenders_2 : decode cX11_lenders 2 = .ok (.invokevirtual 120, 3) := by decide +kernel
theorem dX11_lenders_5 : decode cX11_lenders 5 = .ok (.ifCond .eq 15, 3) := by decide +kernel
theorem dX11_lenders_8 : decode cX11_lenders 8 = .ok (.aload_n 0, 1) := by decide +kernel
theorem dX11_lenders_9 : decode cX11_lenders 9 = .ok (.getfield 25, 3) := by decide +kernel
theorem dX11_lenders_12 : decode cX11_lenders 12 = .ok (.getfield 171, 3) := by decide +kernel
theorem dX11_lenders_15 : decode cX11_lenders 15 = .ok (.iload_n 1, 1) := by decide +kernel
theorem dX11_lenders_16 : decode cX11_lenders 16 = .ok (.iaload, 1) := by decide +kernel
theorem dX11_lenders_17 : decode cX11_lenders 17 = .ok (.goto 4, 3) := by decide +kernel
theorem dX11_lenders_20 : decode cX11_lenders 20 = .ok (.iconst (-1), 1) := by decide +kernel
theorem dX11_lenders_21 : decode cX11_lenders 21 = .ok (.ireturn, 1) := by decide +kernel
theorem dX11_recall_0 : decode cX11_recall 0 = .ok (.aload_n 0, 1) := by decide +kernel
theorem dX11_recall_1 : decode cX11_recall 1 = .ok (.iload_n 1, 1) := by decide +kernel
theorem dX11_recall_2 : decode cX11_recall 2 = .ok (.invokevirtual 120, 3) := by decide +kernel
theorem dX11_recall_5 : decode cX11_recall 5 = .ok (.ifCond .eq 15, 3) := by decide +kernel
theorem dX11_recall_8 : decode cX11_recall 8 = .ok (.aload_n 0, 1) := by decide +kernel
theorem dX11_recall_9 : decode cX11_recall 9 = .ok (.aload_n 0, 1) := by decide +kernel
theorem dX11_recall_10 : decode cX11_recall 10 = .ok (.getfield 35, 3) := by decide +kernel
theorem dX11_recall_13 : decode cX11_recall 13 = .ok (.iload_n 1, 1) := by decide +kernel
theorem dX11_recall_14 : decode cX11_recall 14 = .ok (.invokevirtual 174, 3) := by decide +kernel
theorem dX11_recall_17 : decode cX11_recall 17 = .ok (.goto 4, 3) := by decide +kernel
theorem dX11_recall_20 : decode cX11_recall 20 = .ok (.iconst (-1), 1) := by decide +kernel
theorem dX11_recall_21 : decode cX11_recall 21 = .ok (.ireturn, 1) := by decide +kernel
theorem dX11_law_0 : decode cX11_law 0 = .ok (.aload_n 0, 1) := by decide +kernel
theorem dX11_law_1 : decode cX11_law 1 = .ok (.iload_n 2, 1) := by decide +kernel
theorem dX11_law_2 : decode cX11_law 2 = .ok (.invokevirtual 120, 3) := by decide +kernel
theorem dX11_law_5 : decode cX11_law 5 = .ok (.ifCond .ne 7, 3) := by decide +kernel
theorem dX11_law_8 : decode cX11_law 8 = .ok (.ldc2_w 178, 3) := by decide +kernel
theorem dX11_law_11 : decode cX11_law 11 = .ok (.lreturn, 1) := by decide +kernel
theorem dX11_law_12 : decode cX11_law 12 = .ok (.aload_n 0, 1) := by decide +kernel
theorem dX11_law_13 : decode cX11_law 13 = .ok (.getfield 25, 3) := by decide +kernel
theorem dX11_law_16 : decode cX11_law 16 = .ok (.getfield 180, 3) := by decide +kernel
theorem dX11_law_19 : decode cX11_law 19 = .ok (.iload_n 1, 1) := by decide +kernel
theorem dX11_law_20 : decode cX11_law 20 = .ok (.aload_n 0, 1) := by decide +kernel
theorem dX11_law_21 : decode cX11_law 21 = .ok (.getfield 35, 3) := by decide +kernel
theorem dX11_law_24 : decode cX11_law 24 = .ok (.iload_n 2, 1) := by decide +kernel
theorem dX11_law_25 : decode cX11_law 25 = .ok (.aload_n 0, 1) := by decide +kernel
theorem dX11_law_26 : decode cX11_law 26 = .ok (.getfield 25, 3) := by decide +kernel
theorem dX11_law_29 : decode cX11_law 29 = .ok (.invokevirtual 184, 3) := by decide +kernel
theorem dX11_law_32 : decode cX11_law 32 = .ok (.invokevirtual 188, 3) := by decide +kernel
theorem dX11_law_35 : decode cX11_law 35 = .ok (.lreturn, 1) := by decide +kernel
theorem dX11_count_0 : decode cX11_count 0 = .ok (.iload_n 1, 1) := by decide +kernel
theorem dX11_count_1 : decode cX11_count 1 = .ok (.tableswitch 204 0 14 #[75, 83, 91, 102, 113, 124, 132, 140, 148, 156, 164, 172, 180, 188, 196], 75) := by decide +kernel
theorem dX11_count_76 : decode cX11_count 76 = .ok (.aload_n 0, 1) := by decide +kernel
theorem dX11_count_77 : decode cX11_count 77 = .ok (.getfield 25, 3) := by decide +kernel
theorem dX11_count_80 : decode cX11_count 80 = .ok (.getfield 194, 3) := by decide +kernel
theorem dX11_count_83 : decode cX11_count 83 = .ok (.ireturn, 1) := by decide +kernel
theorem dX11_count_84 : decode cX11_count 84 = .ok (.aload_n 0, 1) := by decide +kernel
theorem dX11_count_85 : decode cX11_count 85 = .ok (.getfield 25, 3) := by decide +kernel
theorem dX11_count_88 : decode cX11_count 88 = .ok (.getfield 197, 3) := by decide +kernel
theorem dX11_count_91 : decode cX11_count 91 = .ok (.ireturn, 1) := by decide +kernel
theorem dX11_count_92 : decode cX11_count 92 = .ok (.aload_n 0, 1) := by decide +kernel
theorem dX11_count_93 : decode cX11_count 93 = .ok (.getfield 25, 3) := by decide +kernel
theorem dX11_count_96 : decode cX11_count 96 = .ok (.getfield 200, 3) := by decide +kernel
theorem dX11_count_99 : decode cX11_count 99 = .ok (.getfield 204, 3) := by decide +kernel
theorem dX11_count_102 : decode cX11_count 102 = .ok (.ireturn, 1) := by decide +kernel
theorem dX11_count_103 : decode cX11_count 103 = .ok (.aload_n 0, 1) := by decide +kernel
theorem dX11_count_104 : decode cX11_count 104 = .ok (.getfield 25, 3) := by decide +kernel
theorem dX11_count_107 : decode cX11_count 107 = .ok (.getfield 209, 3) := by decide +kernel
theorem dX11_count_110 : decode cX11_count 110 = .ok (.getfield 204, 3) := by decide +kernel
theorem dX11_count_113 : decode cX11_count 113 = .ok (.ireturn, 1) := by decide +kernel
theorem dX11_count_114 : decode cX11_count 114 = .ok (.aload_n 0, 1) := by decide +kernel
theorem dX11_count_115 : decode cX11_count 115 = .ok (.getfield 25, 3) := by decide +kernel
theorem dX11_count_118 : decode cX11_count 118 = .ok (.getfield 180, 3) := by decide +kernel
theorem dX11_count_121 : decode cX11_count 121 = .ok (.getfield 212, 3) := by decide +kernel
theorem dX11_count_124 : decode cX11_count 124 = .ok (.ireturn, 1) := by decide +kernel
theorem dX11_count_125 : decode cX11_count 125 = .ok (.aload_n 0, 1) := by decide +kernel
theorem dX11_count_126 : decode cX11_count 126 = .ok (.getfield 35, 3) := by decide +kernel
theorem dX11_count_129 : decode cX11_count 129 = .ok (.getfield 215, 3) := by decide +kernel
theorem dX11_count_132 : decode cX11_count 132 = .ok (.ireturn, 1) := by decide +kernel
theorem dX11_count_133 : decode cX11_count 133 = .ok (.aload_n 0, 1) := by decide +kernel
theorem dX11_count_134 : decode cX11_count 134 = .ok (.getfield 35, 3) := by decide +kernel
theorem dX11_count_137 : decode cX11_count 137 = .ok (.invokevirtual 218, 3) := by decide +kernel
theorem dX11_count_140 : decode cX11_count 140 = .ok (.ireturn, 1) := by decide +kernel
theorem dX11_count_141 : decode cX11_count 141 = .ok (.aload_n 0, 1) := by decide +kernel
theorem dX11_count_142 : decode cX11_count 142 = .ok (.getfield 35, 3) := by decide +kernel
theorem dX11_count_145 : decode cX11_count 145 = .ok (.invokevirtual 222, 3) := by decide +kernel
theorem dX11_count_148 : decode cX11_count 148 = .ok (.ireturn, 1) := by decide +kernel
theorem dX11_count_149 : decode cX11_count 149 = .ok (.aload_n 0, 1) := by decide +kernel
theorem dX11_count_150 : decode cX11_count 150 = .ok (.getfield 35, 3) := by decide +kernel
theorem dX11_count_153 : decode cX11_count 153 = .ok (.invokevirtual 225, 3) := by decide +kernel
theorem dX11_count_156 : decode cX11_count 156 = .ok (.ireturn, 1) := by decide +kernel
theorem dX11_count_157 : decode cX11_count 157 = .ok (.aload_n 0, 1) := by decide +kernel
theorem dX11_count_158 : decode cX11_count 158 = .ok (.getfield 35, 3) := by decide +kernel
theorem dX11_count_161 : decode cX11_count 161 = .ok (.getfield 228, 3) := by decide +kernel
theorem dX11_count_164 : decode cX11_count 164 = .ok (.ireturn, 1) := by decide +kernel
theorem dX11_count_165 : decode cX11_count 165 = .ok (.aload_n 0, 1) := by decide +kernel
theorem dX11_count_166 : decode cX11_count 166 = .ok (.getfield 35, 3) := by decide +kernel
theorem dX11_count_169 : decode cX11_count 169 = .ok (.getfield 231, 3) := by decide +kernel
theorem dX11_count_172 : decode cX11_count 172 = .ok (.ireturn, 1) := by decide +kernel
theorem dX11_count_173 : decode cX11_count 173 = .ok (.aload_n 0, 1) := by decide +kernel
theorem dX11_count_174 : decode cX11_count 174 = .ok (.getfield 35, 3) := by decide +kernel
theorem dX11_count_177 : decode cX11_count 177 = .ok (.invokevirtual 234, 3) := by decide +kernel
theorem dX11_count_180 : decode cX11_count 180 = .ok (.ireturn, 1) := by decide +kernel
theorem dX11_count_181 : decode cX11_count 181 = .ok (.aload_n 0, 1) := by decide +kernel
theorem dX11_count_182 : decode cX11_count 182 = .ok (.getfield 62, 3) := by decide +kernel
theorem dX11_count_185 : decode cX11_count 185 = .ok (.getfield 237, 3) := by decide +kernel
theorem dX11_count_188 : decode cX11_count 188 = .ok (.ireturn, 1) := by decide +kernel
theorem dX11_count_189 : decode cX11_count 189 = .ok (.aload_n 0, 1) := by decide +kernel
theorem dX11_count_190 : decode cX11_count 190 = .ok (.getfield 62, 3) := by decide +kernel
theorem dX11_count_193 : decode cX11_count 193 = .ok (.invokevirtual 238, 3) := by decide +kernel
theorem dX11_count_196 : decode cX11_count 196 = .ok (.ireturn, 1) := by decide +kernel
theorem dX11_count_197 : decode cX11_count 197 = .ok (.aload_n 0, 1) := by decide +kernel
theorem dX11_count_198 : decode cX11_count 198 = .ok (.getfield 55, 3) := by decide +kernel
theorem dX11_count_201 : decode cX11_count 201 = .ok (.getfield 241, 3) := by decide +kernel
theorem dX11_count_204 : decode cX11_count 204 = .ok (.ireturn, 1) := by decide +kernel
theorem dX11_count_205 : decode cX11_count 205 = .ok (.iconst (-1), 1) := by decide +kernel
theorem dX11_count_206 : decode cX11_count 206 = .ok (.ireturn, 1) := by decide +kernel
theorem dX11_isPerson_0 : decode cX11_isPerson 0 = .ok (.iload_n 1, 1) := by decide +kernel
theorem dX11_isPerson_1 : decode cX11_isPerson 1 = .ok (.ifCond .lt 18, 3) := by decide +kernel
theorem dX11_isPerson_4 : decode cX11_isPerson 4 = .ok (.iload_n 1, 1) := by decide +kernel
theorem dX11_isPerson_5 : decode cX11_isPerson 5 = .ok (.aload_n 0, 1) := by decide +kernel
theorem dX11_isPerson_6 : decode cX11_isPerson 6 = .ok (.getfield 25, 3) := by decide +kernel
theorem dX11_isPerson_9 : decode cX11_isPerson 9 = .ok (.getfield 194, 3) := by decide +kernel
theorem dX11_isPerson_12 : decode cX11_isPerson 12 = .ok (.if_icmp .ge 7, 3) := by decide +kernel
theorem dX11_isPerson_15 : decode cX11_isPerson 15 = .ok (.iconst 1, 1) := by decide +kernel
theorem dX11_isPerson_16 : decode cX11_isPerson 16 = .ok (.goto 4, 3) := by decide +kernel
theorem dX11_isPerson_19 : decode cX11_isPerson 19 = .ok (.iconst 0, 1) := by decide +kernel
theorem dX11_isPerson_20 : decode cX11_isPerson 20 = .ok (.ireturn, 1) := by decide +kernel
theorem dX11_areTwo_0 : decode cX11_areTwo 0 = .ok (.aload_n 0, 1) := by decide +kernel
theorem dX11_areTwo_1 : decode cX11_areTwo 1 = .ok (.iload_n 1, 1) := by decide +kernel
theorem dX11_areTwo_2 : decode cX11_areTwo 2 = .ok (.invokevirtual 120, 3) := by decide +kernel
theorem dX11_areTwo_5 : decode cX11_areTwo 5 = .ok (.ifCond .eq 20, 3) := by decide +kernel
theorem dX11_areTwo_8 : decode cX11_areTwo 8 = .ok (.aload_n 0, 1) := by decide +kernel
theorem dX11_areTwo_9 : decode cX11_areTwo 9 = .ok (.iload_n 2, 1) := by decide +kernel
theorem dX11_areTwo_10 : decode cX11_areTwo 10 = .ok (.invokevirtual 120, 3) := by decide +kernel
theorem dX11_areTwo_13 : decode cX11_areTwo 13 = .ok (.ifCond .eq 12, 3) := by decide +kernel
theorem dX11_areTwo_16 : decode cX11_areTwo 16 = .ok (.iload_n 1, 1) := by decide +kernel
theorem dX11_areTwo_17 : decode cX11_areTwo 17 = .ok (.iload_n 2, 1) := by decide +kernel
theorem dX11_areTwo_18 : decode cX11_areTwo 18 = .ok (.if_icmp .eq 7, 3) := by decide +kernel
theorem dX11_areTwo_21 : decode cX11_areTwo 21 = .ok (.iconst 1, 1) := by decide +kernel
theorem dX11_areTwo_22 : decode cX11_areTwo 22 = .ok (.goto 4, 3) := by decide +kernel
theorem dX11_areTwo_25 : decode cX11_areTwo 25 = .ok (.iconst 0, 1) := by decide +kernel
theorem dX11_areTwo_26 : decode cX11_areTwo 26 = .ok (.ireturn, 1) := by decide +kernel
theorem dX11_isInch_0 : decode cX11_isInch 0 = .ok (.iload_n 0, 1) := by decide +kernel
theorem dX11_isInch_1 : decode cX11_isInch 1 = .ok (.ifCond .lt 13, 3) := by decide +kernel
theorem dX11_isInch_4 : decode cX11_isInch 4 = .ok (.iload_n 0, 1) := by decide +kernel
theorem dX11_isInch_5 : decode cX11_isInch 5 = .ok (.bipush 60, 2) := by decide +kernel
theorem dX11_isInch_7 : decode cX11_isInch 7 = .ok (.if_icmp .ge 7, 3) := by decide +kernel
theorem dX11_isInch_10 : decode cX11_isInch 10 = .ok (.iconst 1, 1) := by decide +kernel
theorem dX11_isInch_11 : decode cX11_isInch 11 = .ok (.goto 4, 3) := by decide +kernel
theorem dX11_isInch_14 : decode cX11_isInch 14 = .ok (.iconst 0, 1) := by decide +kernel
theorem dX11_isInch_15 : decode cX11_isInch 15 = .ok (.ireturn, 1) := by decide +kernel
theorem dX11_isEnd_0 : decode cX11_isEnd 0 = .ok (.iload_n 0, 1) := by decide +kernel
theorem dX11_isEnd_1 : decode cX11_isEnd 1 = .ok (.ifCond .eq 8, 3) := by decide +kernel
theorem dX11_isEnd_4 : decode cX11_isEnd 4 = .ok (.iload_n 0, 1) := by decide +kernel
theorem dX11_isEnd_5 : decode cX11_isEnd 5 = .ok (.iconst 1, 1) := by decide +kernel
theorem dX11_isEnd_6 : decode cX11_isEnd 6 = .ok (.if_icmp .ne 7, 3) := by decide +kernel
theorem dX11_isEnd_9 : decode cX11_isEnd 9 = .ok (.iconst 1, 1) := by decide +kernel
theorem dX11_isEnd_10 : decode cX11_isEnd 10 = .ok (.goto 4, 3) := by decide +kernel
theorem dX11_isEnd_13 : decode cX11_isEnd 13 = .ok (.iconst 0, 1) := by decide +kernel
theorem dX11_isEnd_14 : decode cX11_isEnd 14 = .ok (.ireturn, 1) := by decide +kernel
theorem dX11_sees_0 : decode cX11_sees 0 = .ok (.aload_n 0, 1) := by decide +kernel
theorem dX11_sees_1 : decode cX11_sees 1 = .ok (.getfield 25, 3) := by decide +kernel
theorem dX11_sees_4 : decode cX11_sees 4 = .ok (.aload_n 0, 1) := by decide +kernel
theorem dX11_sees_5 : decode cX11_sees 5 = .ok (.getfield 35, 3) := by decide +kernel
theorem dX11_sees_8 : decode cX11_sees 8 = .ok (.invokevirtual 242, 3) := by decide +kernel
theorem dX11_sees_11 : decode cX11_sees 11 = .ok (.iload_n 1, 1) := by decide +kernel
theorem dX11_sees_12 : decode cX11_sees 12 = .ok (.invokevirtual 245, 3) := by decide +kernel
theorem dX11_sees_15 : decode cX11_sees 15 = .ok (.ireturn, 1) := by decide +kernel
theorem dX11_recalled_0 : decode cX11_recalled 0 = .ok (.aload_n 0, 1) := by decide +kernel
theorem dX11_recalled_1 : decode cX11_recalled 1 = .ok (.getfield 25, 3) := by decide +kernel
theorem dX11_recalled_4 : decode cX11_recalled 4 = .ok (.getfield 180, 3) := by decide +kernel
theorem dX11_recalled_7 : decode cX11_recalled 7 = .ok (.iconst 2, 1) := by decide +kernel
theorem dX11_recalled_8 : decode cX11_recalled 8 = .ok (.aload_n 1, 1) := by decide +kernel
theorem dX11_recalled_9 : decode cX11_recalled 9 = .ok (.iload_n 2, 1) := by decide +kernel
theorem dX11_recalled_10 : decode cX11_recalled 10 = .ok (.aload_n 0, 1) := by decide +kernel
theorem dX11_recalled_11 : decode cX11_recalled 11 = .ok (.getfield 25, 3) := by decide +kernel
theorem dX11_recalled_14 : decode cX11_recalled 14 = .ok (.invokevirtual 184, 3) := by decide +kernel
theorem dX11_recalled_17 : decode cX11_recalled 17 = .ok (.invokevirtual 188, 3) := by decide +kernel
theorem dX11_recalled_20 : decode cX11_recalled 20 = .ok (.lstore_n 3, 1) := by decide +kernel
theorem dX11_recalled_21 : decode cX11_recalled 21 = .ok (.lload_n 3, 1) := by decide +kernel
theorem dX11_recalled_22 : decode cX11_recalled 22 = .ok (.ldc2_w 178, 3) := by decide +kernel
theorem dX11_recalled_25 : decode cX11_recalled 25 = .ok (.lcmp, 1) := by decide +kernel
theorem dX11_recalled_26 : decode cX11_recalled 26 = .ok (.ifCond .ne 11, 3) := by decide +kernel
theorem dX11_recalled_29 : decode cX11_recalled 29 = .ok (.aload_n 1, 1) := by decide +kernel
theorem dX11_recalled_30 : decode cX11_recalled 30 = .ok (.iload_n 2, 1) := by decide +kernel
theorem dX11_recalled_31 : decode cX11_recalled 31 = .ok (.invokevirtual 147, 3) := by decide +kernel
theorem dX11_recalled_34 : decode cX11_recalled 34 = .ok (.goto 10, 3) := by decide +kernel
theorem dX11_recalled_37 : decode cX11_recalled 37 = .ok (.lload_n 3, 1) := by decide +kernel
theorem dX11_recalled_38 : decode cX11_recalled 38 = .ok (.sipush 9999, 3) := by decide +kernel
theorem dX11_recalled_41 : decode cX11_recalled 41 = .ok (.invokestatic 248, 3) := by decide +kernel
theorem dX11_recalled_44 : decode cX11_recalled 44 = .ok (.ireturn, 1) := by decide +kernel
theorem dX11_within_0 : decode cX11_within 0 = .ok (.lload_n 0, 1) := by decide +kernel
theorem dX11_within_1 : decode cX11_within 1 = .ok (.lconst 0, 1) := by decide +kernel
theorem dX11_within_2 : decode cX11_within 2 = .ok (.lcmp, 1) := by decide +kernel
theorem dX11_within_3 : decode cX11_within 3 = .ok (.ifCond .ge 5, 3) := by decide +kernel
theorem dX11_within_6 : decode cX11_within 6 = .ok (.iconst 0, 1) := by decide +kernel
theorem dX11_within_7 : decode cX11_within 7 = .ok (.ireturn, 1) := by decide +kernel
theorem dX11_within_8 : decode cX11_within 8 = .ok (.lload_n 0, 1) := by decide +kernel
theorem dX11_within_9 : decode cX11_within 9 = .ok (.iload_n 2, 1) := by decide +kernel
theorem dX11_within_10 : decode cX11_within 10 = .ok (.i2l, 1) := by decide +kernel
theorem dX11_within_11 : decode cX11_within 11 = .ok (.lcmp, 1) := by decide +kernel
theorem dX11_within_12 : decode cX11_within 12 = .ok (.ifCond .le 7, 3) := by decide +kernel
theorem dX11_within_15 : decode cX11_within 15 = .ok (.iload_n 2, 1) := by decide +kernel
theorem dX11_within_16 : decode cX11_within 16 = .ok (.goto 5, 3) := by decide +kernel
theorem dX11_within_19 : decode cX11_within 19 = .ok (.lload_n 0, 1) := by decide +kernel
theorem dX11_within_20 : decode cX11_within 20 = .ok (.l2i, 1) := by decide +kernel
theorem dX11_within_21 : decode cX11_within 21 = .ok (.ireturn, 1) := by decide +kernel
theorem dX11_light_0 : decode cX11_light 0 = .ok (.aload_n 0, 1) := by decide +kernel
theorem dX11_light_1 : decode cX11_light 1 = .ok (.iload_n 1, 1) := by decide +kernel
theorem dX11_light_2 : decode cX11_light 2 = .ok (.invokevirtual 120, 3) := by decide +kernel
theorem dX11_light_5 : decode cX11_light 5 = .ok (.ifCond .eq 22, 3) := by decide +kernel
theorem dX11_light_8 : decode cX11_light 8 = .ok (.iload_n 2, 1) := by decide +kernel
theorem dX11_light_9 : decode cX11_light 9 = .ok (.invokestatic 252, 3) := by decide +kernel
theorem dX11_light_12 : decode cX11_light 12 = .ok (.ifCond .eq 15, 3) := by decide +kernel
theorem dX11_light_15 : decode cX11_light 15 = .ok (.aload_n 0, 1) := by decide +kernel
theorem dX11_light_16 : decode cX11_light 16 = .ok (.getfield 35, 3) := by decide +kernel
theorem dX11_light_19 : decode cX11_light 19 = .ok (.iload_n 1, 1) := by decide +kernel
theorem dX11_light_20 : decode cX11_light 20 = .ok (.iload_n 2, 1) := by decide +kernel
theorem dX11_light_21 : decode cX11_light 21 = .ok (.invokevirtual 255, 3) := by decide +kernel
theorem dX11_light_24 : decode cX11_light 24 = .ok (.ifCond .ne 5, 3) := by decide +kernel
theorem dX11_light_27 : decode cX11_light 27 = .ok (.iconst 0, 1) := by decide +kernel
theorem dX11_light_28 : decode cX11_light 28 = .ok (.ireturn, 1) := by decide +kernel
theorem dX11_light_29 : decode cX11_light 29 = .ok (.aload_n 0, 1) := by decide +kernel
theorem dX11_light_30 : decode cX11_light 30 = .ok (.getfield 55, 3) := by decide +kernel
theorem dX11_light_33 : decode cX11_light 33 = .ok (.aload_n 0, 1) := by decide +kernel
theorem dX11_light_34 : decode cX11_light 34 = .ok (.getfield 35, 3) := by decide +kernel
theorem dX11_light_37 : decode cX11_light 37 = .ok (.iload_n 1, 1) := by decide +kernel
theorem dX11_light_38 : decode cX11_light 38 = .ok (.invokevirtual 258, 3) := by decide +kernel
theorem dX11_light_41 : decode cX11_light 41 = .ok (.aload_n 0, 1) := by decide +kernel
theorem dX11_light_42 : decode cX11_light 42 = .ok (.getfield 35, 3) := by decide +kernel
theorem dX11_light_45 : decode cX11_light 45 = .ok (.getfield 144, 3) := by decide +kernel
theorem dX11_light_48 : decode cX11_light 48 = .ok (.iload_n 1, 1) := by decide +kernel
theorem dX11_light_49 : decode cX11_light 49 = .ok (.dup2, 1) := by decide +kernel
theorem dX11_light_50 : decode cX11_light 50 = .ok (.iaload, 1) := by decide +kernel
theorem dX11_light_51 : decode cX11_light 51 = .ok (.iconst 1, 1) := by decide +kernel
theorem dX11_light_52 : decode cX11_light 52 = .ok (.iload_n 2, 1) := by decide +kernel
theorem dX11_light_53 : decode cX11_light 53 = .ok (.ishl, 1) := by decide +kernel
theorem dX11_light_54 : decode cX11_light 54 = .ok (.ior, 1) := by decide +kernel
theorem dX11_light_55 : decode cX11_light 55 = .ok (.iastore, 1) := by decide +kernel
theorem dX11_light_56 : decode cX11_light 56 = .ok (.iconst 1, 1) := by decide +kernel
theorem dX11_light_57 : decode cX11_light 57 = .ok (.ireturn, 1) := by decide +kernel
theorem dX11_blow_0 : decode cX11_blow 0 = .ok (.aload_n 0, 1) := by decide +kernel
theorem dX11_blow_1 : decode cX11_blow 1 = .ok (.iload_n 1, 1) := by decide +kernel
theorem dX11_blow_2 : decode cX11_blow 2 = .ok (.invokevirtual 120, 3) := by decide +kernel
theorem dX11_blow_5 : decode cX11_blow 5 = .ok (.ifCond .eq 22, 3) := by decide +kernel
theorem dX11_blow_8 : decode cX11_blow 8 = .ok (.iload_n 2, 1) := by decide +kernel
theorem dX11_blow_9 : decode cX11_blow 9 = .ok (.invokestatic 252, 3) := by decide +kernel
theorem dX11_blow_12 : decode cX11_blow 12 = .ok (.ifCond .eq 15, 3) := by decide +kernel
theorem dX11_blow_15 : decode cX11_blow 15 = .ok (.aload_n 0, 1) := by decide +kernel
theorem dX11_blow_16 : decode cX11_blow 16 = .ok (.getfield 35, 3) := by decide +kernel
theorem dX11_blow_19 : decode cX11_blow 19 = .ok (.iload_n 1, 1) := by decide +kernel
theorem dX11_blow_20 : decode cX11_blow 20 = .ok (.iload_n 2, 1) := by decide +kernel
theorem dX11_blow_21 : decode cX11_blow 21 = .ok (.invokevirtual 262, 3) := by decide +kernel
theorem dX11_blow_24 : decode cX11_blow 24 = .ok (.ifCond .ne 5, 3) := by decide +kernel
theorem dX11_blow_27 : decode cX11_blow 27 = .ok (.iconst 0, 1) := by decide +kernel
theorem dX11_blow_28 : decode cX11_blow 28 = .ok (.ireturn, 1) := by decide +kernel
theorem dX11_blow_29 : decode cX11_blow 29 = .ok (.aload_n 0, 1) := by decide +kernel
theorem dX11_blow_30 : decode cX11_blow 30 = .ok (.getfield 55, 3) := by decide +kernel
theorem dX11_blow_33 : decode cX11_blow 33 = .ok (.aload_n 0, 1) := by decide +kernel
theorem dX11_blow_34 : decode cX11_blow 34 = .ok (.getfield 35, 3) := by decide +kernel
theorem dX11_blow_37 : decode cX11_blow 37 = .ok (.iload_n 1, 1) := by decide +kernel
theorem dX11_blow_38 : decode cX11_blow 38 = .ok (.invokevirtual 258, 3) := by decide +kernel
theorem dX11_blow_41 : decode cX11_blow 41 = .ok (.aload_n 0, 1) := by decide +kernel
theorem dX11_blow_42 : decode cX11_blow 42 = .ok (.getfield 35, 3) := by decide +kernel
theorem dX11_blow_45 : decode cX11_blow 45 = .ok (.getfield 144, 3) := by decide +kernel
theorem dX11_blow_48 : decode cX11_blow 48 = .ok (.iload_n 1, 1) := by decide +kernel
theorem dX11_blow_49 : decode cX11_blow 49 = .ok (.dup2, 1) := by decide +kernel
theorem dX11_blow_50 : decode cX11_blow 50 = .ok (.iaload, 1) := by decide +kernel
theorem dX11_blow_51 : decode cX11_blow 51 = .ok (.iconst 1, 1) := by decide +kernel
theorem dX11_blow_52 : decode cX11_blow 52 = .ok (.iload_n 2, 1) := by decide +kernel
theorem dX11_blow_53 : decode cX11_blow 53 = .ok (.ishl, 1) := by decide +kernel
theorem dX11_blow_54 : decode cX11_blow 54 = .ok (.iconst (-1), 1) := by decide +kernel
theorem dX11_blow_55 : decode cX11_blow 55 = .ok (.ixor, 1) := by decide +kernel
theorem dX11_blow_56 : decode cX11_blow 56 = .ok (.iand, 1) := by decide +kernel
theorem dX11_blow_57 : decode cX11_blow 57 = .ok (.iastore, 1) := by decide +kernel
theorem dX11_blow_58 : decode cX11_blow 58 = .ok (.iconst 1, 1) := by decide +kernel
theorem dX11_blow_59 : decode cX11_blow 59 = .ok (.ireturn, 1) := by decide +kernel
theorem dX11_cut_0 : decode cX11_cut 0 = .ok (.aload_n 0, 1) := by decide +kernel
theorem dX11_cut_1 : decode cX11_cut 1 = .ok (.iload_n 1, 1) := by decide +kernel
theorem dX11_cut_2 : decode cX11_cut 2 = .ok (.invokevirtual 120, 3) := by decide +kernel
theorem dX11_cut_5 : decode cX11_cut 5 = .ok (.ifCond .eq 21, 3) := by decide +kernel
theorem dX11_cut_8 : decode cX11_cut 8 = .ok (.iload_n 2, 1) := by decide +kernel
theorem dX11_cut_9 : decode cX11_cut 9 = .ok (.invokestatic 252, 3) := by decide +kernel
theorem dX11_cut_12 : decode cX11_cut 12 = .ok (.ifCond .eq 14, 3) := by decide +kernel
theorem dX11_cut_15 : decode cX11_cut 15 = .ok (.iload_n 3, 1) := by decide +kernel
theorem dX11_cut_16 : decode cX11_cut 16 = .ok (.iconst 1, 1) := by decide +kernel
theorem dX11_cut_17 : decode cX11_cut 17 = .ok (.if_icmp .lt 9, 3) := by decide +kernel
theorem dX11_cut_20 : decode cX11_cut 20 = .ok (.iload_n 3, 1) := by decide +kernel
theorem dX11_cut_21 : decode cX11_cut 21 = .ok (.bipush 60, 2) := by decide +kernel
theorem dX11_cut_23 : decode cX11_cut 23 = .ok (.if_icmp .le 5, 3) := by decide +kernel
theorem dX11_cut_26 : decode cX11_cut 26 = .ok (.iconst (-1), 1) := by decide +kernel
theorem dX11_cut_27 : decode cX11_cut 27 = .ok (.ireturn, 1) := by decide +kernel
theorem dX11_cut_28 : decode cX11_cut 28 = .ok (.iload_n 3, 1) := by decide +kernel
theorem dX11_cut_29 : decode cX11_cut 29 = .ok (.aload_n 0, 1) := by decide +kernel
theorem dX11_cut_30 : decode cX11_cut 30 = .ok (.getfield 35, 3) := by decide +kernel
theorem dX11_cut_33 : decode cX11_cut 33 = .ok (.iload_n 1, 1) := by decide +kernel
theorem dX11_cut_34 : decode cX11_cut 34 = .ok (.invokevirtual 131, 3) := by decide +kernel
theorem dX11_cut_37 : decode cX11_cut 37 = .ok (.if_icmp .le 6, 3) := by decide +kernel
theorem dX11_cut_40 : decode cX11_cut 40 = .ok (.bipush (-2), 2) := by decide +kernel
theorem dX11_cut_42 : decode cX11_cut 42 = .ok (.ireturn, 1) := by decide +kernel
theorem dX11_cut_43 : decode cX11_cut 43 = .ok (.aload_n 0, 1) := by decide +kernel
theorem dX11_cut_44 : decode cX11_cut 44 = .ok (.getfield 55, 3) := by decide +kernel
theorem dX11_cut_47 : decode cX11_cut 47 = .ok (.aload_n 0, 1) := by decide +kernel
theorem dX11_cut_48 : decode cX11_cut 48 = .ok (.getfield 35, 3) := by decide +kernel
theorem dX11_cut_51 : decode cX11_cut 51 = .ok (.iload_n 1, 1) := by decide +kernel
theorem dX11_cut_52 : decode cX11_cut 52 = .ok (.invokevirtual 258, 3) := by decide +kernel
theorem dX11_cut_55 : decode cX11_cut 55 = .ok (.aload_n 0, 1) := by decide +kernel
theorem dX11_cut_56 : decode cX11_cut 56 = .ok (.getfield 35, 3) := by decide +kernel
theorem dX11_cut_59 : decode cX11_cut 59 = .ok (.iload_n 1, 1) := by decide +kernel
theorem dX11_cut_60 : decode cX11_cut 60 = .ok (.iload_n 2, 1) := by decide +kernel
theorem dX11_cut_61 : decode cX11_cut 61 = .ok (.iload_n 3, 1) := by decide +kernel
theorem dX11_cut_62 : decode cX11_cut 62 = .ok (.invokevirtual 265, 3) := by decide +kernel
theorem dX11_cut_65 : decode cX11_cut 65 = .ok (.aload_n 0, 1) := by decide +kernel
theorem dX11_cut_66 : decode cX11_cut 66 = .ok (.getfield 35, 3) := by decide +kernel
theorem dX11_cut_69 : decode cX11_cut 69 = .ok (.iload_n 1, 1) := by decide +kernel
theorem dX11_cut_70 : decode cX11_cut 70 = .ok (.invokevirtual 131, 3) := by decide +kernel
theorem dX11_cut_73 : decode cX11_cut 73 = .ok (.ireturn, 1) := by decide +kernel
theorem dX11_go_0 : decode cX11_go 0 = .ok (.iload_n 1, 1) := by decide +kernel
theorem dX11_go_1 : decode cX11_go 1 = .ok (.ifCond .lt 25, 3) := by decide +kernel
theorem dX11_go_4 : decode cX11_go 4 = .ok (.iload_n 1, 1) := by decide +kernel
theorem dX11_go_5 : decode cX11_go 5 = .ok (.sipush 200, 3) := by decide +kernel
theorem dX11_go_8 : decode cX11_go 8 = .ok (.if_icmp .gt 18, 3) := by decide +kernel
theorem dX11_go_11 : decode cX11_go 11 = .ok (.aload_n 0, 1) := by decide +kernel
theorem dX11_go_12 : decode cX11_go 12 = .ok (.getfield 35, 3) := by decide +kernel
theorem dX11_go_15 : decode cX11_go 15 = .ok (.getfield 215, 3) := by decide +kernel
theorem dX11_go_18 : decode cX11_go 18 = .ok (.iload_n 1, 1) := by decide +kernel
theorem dX11_go_19 : decode cX11_go 19 = .ok (.iadd, 1) := by decide +kernel
theorem dX11_go_20 : decode cX11_go 20 = .ok (.sipush 9800, 3) := by decide +kernel
theorem dX11_go_23 : decode cX11_go 23 = .ok (.if_icmp .le 5, 3) := by decide +kernel
theorem dX11_go_26 : decode cX11_go 26 = .ok (.iconst (-1), 1) := by decide +kernel
theorem dX11_go_27 : decode cX11_go 27 = .ok (.ireturn, 1) := by decide +kernel
theorem dX11_go_28 : decode cX11_go 28 = .ok (.iload_n 1, 1) := by decide +kernel
theorem dX11_go_29 : decode cX11_go 29 = .ok (.ifCond .le 10, 3) := by decide +kernel
theorem dX11_go_32 : decode cX11_go 32 = .ok (.aload_n 0, 1) := by decide +kernel
theorem dX11_go_33 : decode cX11_go 33 = .ok (.getfield 55, 3) := by decide +kernel
theorem dX11_go_36 : decode cX11_go 36 = .ok (.invokevirtual 106, 3) := by decide +kernel
theorem dX11_go_39 : decode cX11_go 39 = .ok (.aload_n 0, 1) := by decide +kernel
theorem dX11_go_40 : decode cX11_go 40 = .ok (.getfield 48, 3) := by decide +kernel
theorem dX11_go_43 : decode cX11_go 43 = .ok (.aload_n 0, 1) := by decide +kernel
theorem dX11_go_44 : decode cX11_go 44 = .ok (.getfield 25, 3) := by decide +kernel
theorem dX11_go_47 : decode cX11_go 47 = .ok (.iconst 1, 1) := by decide +kernel
theorem dX11_go_48 : decode cX11_go 48 = .ok (.invokevirtual 269, 3) := by decide +kernel
theorem dX11_go_51 : decode cX11_go 51 = .ok (.iconst 0, 1) := by decide +kernel
theorem dX11_go_52 : decode cX11_go 52 = .ok (.istore_n 2, 1) := by decide +kernel
theorem dX11_go_53 : decode cX11_go 53 = .ok (.iload_n 2, 1) := by decide +kernel
theorem dX11_go_54 : decode cX11_go 54 = .ok (.iload_n 1, 1) := by decide +kernel
theorem dX11_go_55 : decode cX11_go 55 = .ok (.if_icmp .ge 23, 3) := by decide +kernel
theorem dX11_go_58 : decode cX11_go 58 = .ok (.aload_n 0, 1) := by decide +kernel
theorem dX11_go_59 : decode cX11_go 59 = .ok (.getfield 48, 3) := by decide +kernel
theorem dX11_go_62 : decode cX11_go 62 = .ok (.aload_n 0, 1) := by decide +kernel
theorem dX11_go_63 : decode cX11_go 63 = .ok (.getfield 35, 3) := by decide +kernel
theorem dX11_go_66 : decode cX11_go 66 = .ok (.bipush 63, 2) := by decide +kernel
theorem dX11_go_68 : decode cX11_go 68 = .ok (.iconst 1, 1) := by decide +kernel
theorem dX11_go_69 : decode cX11_go 69 = .ok (.invokevirtual 272, 3) := by decide +kernel
theorem dX11_go_72 : decode cX11_go 72 = .ok (.iinc 2 1, 3) := by decide +kernel
theorem dX11_go_75 : decode cX11_go 75 = .ok (.goto (-22), 3) := by decide +kernel
theorem dX11_go_78 : decode cX11_go 78 = .ok (.aload_n 0, 1) := by decide +kernel
theorem dX11_go_79 : decode cX11_go 79 = .ok (.getfield 35, 3) := by decide +kernel
theorem dX11_go_82 : decode cX11_go 82 = .ok (.getfield 215, 3) := by decide +kernel
theorem dX11_go_85 : decode cX11_go 85 = .ok (.ireturn, 1) := by decide +kernel
theorem dX11_undo_0 : decode cX11_undo 0 = .ok (.aload_n 0, 1) := by decide +kernel
theorem dX11_undo_1 : decode cX11_undo 1 = .ok (.getfield 55, 3) := by decide +kernel
theorem dX11_undo_4 : decode cX11_undo 4 = .ok (.getfield 241, 3) := by decide +kernel
theorem dX11_undo_7 : decode cX11_undo 7 = .ok (.ifCond .ne 5, 3) := by decide +kernel
theorem dX11_undo_10 : decode cX11_undo 10 = .ok (.iconst (-1), 1) := by decide +kernel
theorem dX11_undo_11 : decode cX11_undo 11 = .ok (.ireturn, 1) := by decide +kernel
theorem dX11_undo_12 : decode cX11_undo 12 = .ok (.aload_n 0, 1) := by decide +kernel
theorem dX11_undo_13 : decode cX11_undo 13 = .ok (.getfield 55, 3) := by decide +kernel
theorem dX11_undo_16 : decode cX11_undo 16 = .ok (.aload_n 0, 1) := by decide +kernel
theorem dX11_undo_17 : decode cX11_undo 17 = .ok (.getfield 35, 3) := by decide +kernel
theorem dX11_undo_20 : decode cX11_undo 20 = .ok (.invokevirtual 276, 3) := by decide +kernel
theorem dX11_undo_23 : decode cX11_undo 23 = .ok (.aload_n 0, 1) := by decide +kernel
theorem dX11_undo_24 : decode cX11_undo 24 = .ok (.getfield 55, 3) := by decide +kernel
theorem dX11_undo_27 : decode cX11_undo 27 = .ok (.getfield 241, 3) := by decide +kernel
theorem dX11_undo_30 : decode cX11_undo 30 = .ok (.ireturn, 1) := by decide +kernel
theorem dX11_keep_0 : decode cX11_keep 0 = .ok (.aload_n 0, 1) := by decide +kernel
theorem dX11_keep_1 : decode cX11_keep 1 = .ok (.getfield 39, 3) := by decide +kernel
theorem dX11_keep_4 : decode cX11_keep 4 = .ok (.aload_n 0, 1) := by decide +kernel
theorem dX11_keep_5 : decode cX11_keep 5 = .ok (.getfield 35, 3) := by decide +kernel
theorem dX11_keep_8 : decode cX11_keep 8 = .ok (.invokevirtual 280, 3) := by decide +kernel
theorem dX11_keep_11 : decode cX11_keep 11 = .ok (.aload_n 0, 1) := by decide +kernel
theorem dX11_keep_12 : decode cX11_keep 12 = .ok (.iconst 1, 1) := by decide +kernel
theorem dX11_keep_13 : decode cX11_keep 13 = .ok (.putfield 102, 3) := by decide +kernel
theorem dX11_keep_16 : decode cX11_keep 16 = .ok (.aload_n 0, 1) := by decide +kernel
theorem dX11_keep_17 : decode cX11_keep 17 = .ok (.getfield 35, 3) := by decide +kernel
theorem dX11_keep_20 : decode cX11_keep 20 = .ok (.getfield 215, 3) := by decide +kernel
theorem dX11_keep_23 : decode cX11_keep 23 = .ok (.ireturn, 1) := by decide +kernel
theorem dX11_back_0 : decode cX11_back 0 = .ok (.aload_n 0, 1) := by decide +kernel
theorem dX11_back_1 : decode cX11_back 1 = .ok (.getfield 102, 3) := by decide +kernel
theorem dX11_back_4 : decode cX11_back 4 = .ok (.ifCond .ne 5, 3) := by decide +kernel
theorem dX11_back_7 : decode cX11_back 7 = .ok (.iconst (-1), 1) := by decide +kernel
theorem dX11_back_8 : decode cX11_back 8 = .ok (.ireturn, 1) := by decide +kernel
theorem dX11_back_9 : decode cX11_back 9 = .ok (.aload_n 0, 1) := by decide +kernel
theorem dX11_back_10 : decode cX11_back 10 = .ok (.getfield 35, 3) := by decide +kernel
theorem dX11_back_13 : decode cX11_back 13 = .ok (.aload_n 0, 1) := by decide +kernel
theorem dX11_back_14 : decode cX11_back 14 = .ok (.getfield 39, 3) := by decide +kernel
theorem dX11_back_17 : decode cX11_back 17 = .ok (.invokevirtual 280, 3) := by decide +kernel
theorem dX11_back_20 : decode cX11_back 20 = .ok (.aload_n 0, 1) := by decide +kernel
theorem dX11_back_21 : decode cX11_back 21 = .ok (.getfield 55, 3) := by decide +kernel
theorem dX11_back_24 : decode cX11_back 24 = .ok (.invokevirtual 106, 3) := by decide +kernel
theorem dX11_back_27 : decode cX11_back 27 = .ok (.aload_n 0, 1) := by decide +kernel
theorem dX11_back_28 : decode cX11_back 28 = .ok (.getfield 35, 3) := by decide +kernel
theorem dX11_back_31 : decode cX11_back 31 = .ok (.getfield 215, 3) := by decide +kernel
theorem dX11_back_34 : decode cX11_back 34 = .ok (.ireturn, 1) := by decide +kernel
theorem dX11_ahead_0 : decode cX11_ahead 0 = .ok (.iload_n 1, 1) := by decide +kernel
theorem dX11_ahead_1 : decode cX11_ahead 1 = .ok (.ifCond .lt 19, 3) := by decide +kernel
theorem dX11_ahead_4 : decode cX11_ahead 4 = .ok (.iload_n 1, 1) := by decide +kernel
theorem dX11_ahead_5 : decode cX11_ahead 5 = .ok (.sipush 200, 3) := by decide +kernel
theorem dX11_ahead_8 : decode cX11_ahead 8 = .ok (.if_icmp .gt 12, 3) := by decide +kernel
theorem dX11_ahead_11 : decode cX11_ahead 11 = .ok (.iload_n 2, 1) := by decide +kernel
theorem dX11_ahead_12 : decode cX11_ahead 12 = .ok (.ifCond .lt 8, 3) := by decide +kernel
theorem dX11_ahead_15 : decode cX11_ahead 15 = .ok (.iload_n 2, 1) := by decide +kernel
theorem dX11_ahead_16 : decode cX11_ahead 16 = .ok (.iconst 4, 1) := by decide +kernel
theorem dX11_ahead_17 : decode cX11_ahead 17 = .ok (.if_icmp .le 5, 3) := by decide +kernel
theorem dX11_ahead_20 : decode cX11_ahead 20 = .ok (.iconst (-1), 1) := by decide +kernel
theorem dX11_ahead_21 : decode cX11_ahead 21 = .ok (.ireturn, 1) := by decide +kernel
theorem dX11_ahead_22 : decode cX11_ahead 22 = .ok (.iload_n 2, 1) := by decide +kernel
theorem dX11_ahead_23 : decode cX11_ahead 23 = .ok (.iconst 2, 1) := by decide +kernel
theorem dX11_ahead_24 : decode cX11_ahead 24 = .ok (.if_icmp .eq 18, 3) := by decide +kernel
theorem dX11_ahead_27 : decode cX11_ahead 27 = .ok (.iload_n 2, 1) := by decide +kernel
theorem dX11_ahead_28 : decode cX11_ahead 28 = .ok (.iconst 3, 1) := by decide +kernel
theorem dX11_ahead_29 : decode cX11_ahead 29 = .ok (.if_icmp .eq 13, 3) := by decide +kernel
theorem dX11_ahead_32 : decode cX11_ahead 32 = .ok (.aload_n 0, 1) := by decide +kernel
theorem dX11_ahead_33 : decode cX11_ahead 33 = .ok (.iload_n 3, 1) := by decide +kernel
theorem dX11_ahead_34 : decode cX11_ahead 34 = .ok (.invokevirtual 120, 3) := by decide +kernel
theorem dX11_ahead_37 : decode cX11_ahead 37 = .ok (.ifCond .ne 5, 3) := by decide +kernel
theorem dX11_ahead_40 : decode cX11_ahead 40 = .ok (.iconst (-1), 1) := by decide +kernel
theorem dX11_ahead_41 : decode cX11_ahead 41 = .ok (.ireturn, 1) := by decide +kernel
theorem dX11_ahead_42 : decode cX11_ahead 42 = .ok (.aload_n 0, 1) := by decide +kernel
theorem dX11_ahead_43 : decode cX11_ahead 43 = .ok (.iload_n 1, 1) := by decide +kernel
theorem dX11_ahead_44 : decode cX11_ahead 44 = .ok (.invokevirtual 283, 3) := by decide +kernel
theorem dX11_ahead_47 : decode cX11_ahead 47 = .ok (.iload_n 2, 1) := by decide +kernel
theorem dX11_ahead_48 : decode cX11_ahead 48 = .ok (.tableswitch 75 0 3 #[32, 41, 51, 59], 32) := by decide +kernel
theorem dX11_ahead_80 : decode cX11_ahead 80 = .ok (.aload_n 0, 1) := by decide +kernel
theorem dX11_ahead_81 : decode cX11_ahead 81 = .ok (.getfield 42, 3) := by decide +kernel
theorem dX11_ahead_84 : decode cX11_ahead 84 = .ok (.iload_n 3, 1) := by decide +kernel
theorem dX11_ahead_85 : decode cX11_ahead 85 = .ok (.invokevirtual 131, 3) := by decide +kernel
theorem dX11_ahead_88 : decode cX11_ahead 88 = .ok (.ireturn, 1) := by decide +kernel
theorem dX11_ahead_89 : decode cX11_ahead 89 = .ok (.aload_n 0, 1) := by decide +kernel
theorem dX11_ahead_90 : decode cX11_ahead 90 = .ok (.aload_n 0, 1) := by decide +kernel
theorem dX11_ahead_91 : decode cX11_ahead 91 = .ok (.getfield 42, 3) := by decide +kernel
theorem dX11_ahead_94 : decode cX11_ahead 94 = .ok (.iload_n 3, 1) := by decide +kernel
theorem dX11_ahead_95 : decode cX11_ahead 95 = .ok (.invokevirtual 174, 3) := by decide +kernel
theorem dX11_ahead_98 : decode cX11_ahead 98 = .ok (.ireturn, 1) := by decide +kernel
theorem dX11_ahead_99 : decode cX11_ahead 99 = .ok (.aload_n 0, 1) := by decide +kernel
theorem dX11_ahead_100 : decode cX11_ahead 100 = .ok (.getfield 42, 3) := by decide +kernel
theorem dX11_ahead_103 : decode cX11_ahead 103 = .ok (.invokevirtual 222, 3) := by decide +kernel
theorem dX11_ahead_106 : decode cX11_ahead 106 = .ok (.ireturn, 1) := by decide +kernel
theorem dX11_ahead_107 : decode cX11_ahead 107 = .ok (.aload_n 0, 1) := by decide +kernel
theorem dX11_ahead_108 : decode cX11_ahead 108 = .ok (.getfield 42, 3) := by decide +kernel
theorem dX11_ahead_111 : decode cX11_ahead 111 = .ok (.getfield 228, 3) := by decide +kernel
theorem dX11_ahead_114 : decode cX11_ahead 114 = .ok (.aload_n 0, 1) := by decide +kernel
theorem dX11_ahead_115 : decode cX11_ahead 115 = .ok (.getfield 35, 3) := by decide +kernel
theorem dX11_ahead_118 : decode cX11_ahead 118 = .ok (.getfield 228, 3) := by decide +kernel
theorem dX11_ahead_121 : decode cX11_ahead 121 = .ok (.isub, 1) := by decide +kernel
theorem dX11_ahead_122 : decode cX11_ahead 122 = .ok (.ireturn, 1) := by decide +kernel
theorem dX11_ahead_123 : decode cX11_ahead 123 = .ok (.aload_n 0, 1) := by decide +kernel
theorem dX11_ahead_124 : decode cX11_ahead 124 = .ok (.getfield 42, 3) := by decide +kernel
theorem dX11_ahead_127 : decode cX11_ahead 127 = .ok (.getfield 153, 3) := by decide +kernel
theorem dX11_ahead_130 : decode cX11_ahead 130 = .ok (.iload_n 3, 1) := by decide +kernel
theorem dX11_ahead_131 : decode cX11_ahead 131 = .ok (.iaload, 1) := by decide +kernel
theorem dX11_ahead_132 : decode cX11_ahead 132 = .ok (.aload_n 0, 1) := by decide +kernel
theorem dX11_ahead_133 : decode cX11_ahead 133 = .ok (.getfield 35, 3) := by decide +kernel
theorem dX11_ahead_136 : decode cX11_ahead 136 = .ok (.getfield 153, 3) := by decide +kernel
theorem dX11_ahead_139 : decode cX11_ahead 139 = .ok (.iload_n 3, 1) := by decide +kernel
theorem dX11_ahead_140 : decode cX11_ahead 140 = .ok (.iaload, 1) := by decide +kernel
theorem dX11_ahead_141 : decode cX11_ahead 141 = .ok (.isub, 1) := by decide +kernel
theorem dX11_ahead_142 : decode cX11_ahead 142 = .ok (.ireturn, 1) := by decide +kernel
theorem dX11_lookAhead_0 : decode cX11_lookAhead 0 = .ok (.aload_n 0, 1) := by decide +kernel
theorem dX11_lookAhead_1 : decode cX11_lookAhead 1 = .ok (.getfield 48, 3) := by decide +kernel
theorem dX11_lookAhead_4 : decode cX11_lookAhead 4 = .ok (.aload_n 0, 1) := by decide +kernel
theorem dX11_lookAhead_5 : decode cX11_lookAhead 5 = .ok (.getfield 25, 3) := by decide +kernel
theorem dX11_lookAhead_8 : decode cX11_lookAhead 8 = .ok (.iconst 0, 1) := by decide +kernel
theorem dX11_lookAhead_9 : decode cX11_lookAhead 9 = .ok (.invokevirtual 269, 3) := by decide +kernel
theorem dX11_lookAhead_12 : decode cX11_lookAhead 12 = .ok (.aload_n 0, 1) := by decide +kernel
theorem dX11_lookAhead_13 : decode cX11_lookAhead 13 = .ok (.getfield 42, 3) := by decide +kernel
theorem dX11_lookAhead_16 : decode cX11_lookAhead 16 = .ok (.aload_n 0, 1) := by decide +kernel
theorem dX11_lookAhead_17 : decode cX11_lookAhead 17 = .ok (.getfield 35, 3) := by decide +kernel
theorem dX11_lookAhead_20 : decode cX11_lookAhead 20 = .ok (.invokevirtual 280, 3) := by decide +kernel
theorem dX11_lookAhead_23 : decode cX11_lookAhead 23 = .ok (.iconst 0, 1) := by decide +kernel
theorem dX11_lookAhead_24 : decode cX11_lookAhead 24 = .ok (.istore_n 2, 1) := by decide +kernel
theorem dX11_lookAhead_25 : decode cX11_lookAhead 25 = .ok (.iload_n 2, 1) := by decide +kernel
theorem dX11_lookAhead_26 : decode cX11_lookAhead 26 = .ok (.iload_n 1, 1) := by decide +kernel
theorem dX11_lookAhead_27 : decode cX11_lookAhead 27 = .ok (.if_icmp .ge 23, 3) := by decide +kernel
theorem dX11_lookAhead_30 : decode cX11_lookAhead 30 = .ok (.aload_n 0, 1) := by decide +kernel
theorem dX11_lookAhead_31 : decode cX11_lookAhead 31 = .ok (.getfield 48, 3) := by decide +kernel
theorem dX11_lookAhead_34 : decode cX11_lookAhead 34 = .ok (.aload_n 0, 1) := by decide +kernel
theorem dX11_lookAhead_35 : decode cX11_lookAhead 35 = .ok (.getfield 42, 3) := by decide +kernel
theorem dX11_lookAhead_38 : decode cX11_lookAhead 38 = .ok (.bipush 63, 2) := by decide +kernel
theorem dX11_lookAhead_40 : decode cX11_lookAhead 40 = .ok (.iconst 1, 1) := by decide +kernel
theorem dX11_lookAhead_41 : decode cX11_lookAhead 41 = .ok (.invokevirtual 272, 3) := by decide +kernel
theorem dX11_lookAhead_44 : decode cX11_lookAhead 44 = .ok (.iinc 2 1, 3) := by decide +kernel
theorem dX11_lookAhead_47 : decode cX11_lookAhead 47 = .ok (.goto (-22), 3) := by decide +kernel
theorem dX11_lookAhead_50 : decode cX11_lookAhead 50 = .ok (.return_, 1) := by decide +kernel
theorem dX11_ends_0 : decode cX11_ends 0 = .ok (.aload_n 0, 1) := by decide +kernel
theorem dX11_ends_1 : decode cX11_ends 1 = .ok (.iload_n 1, 1) := by decide +kernel
theorem dX11_ends_2 : decode cX11_ends 2 = .ok (.invokevirtual 120, 3) := by decide +kernel
theorem dX11_ends_5 : decode cX11_ends 5 = .ok (.ifCond .ne 5, 3) := by decide +kernel
theorem dX11_ends_8 : decode cX11_ends 8 = .ok (.iconst (-1), 1) := by decide +kernel
theorem dX11_ends_9 : decode cX11_ends 9 = .ok (.ireturn, 1) := by decide +kernel
theorem dX11_ends_10 : decode cX11_ends 10 = .ok (.aload_n 0, 1) := by decide +kernel
theorem dX11_ends_11 : decode cX11_ends 11 = .ok (.getfield 48, 3) := by decide +kernel
theorem dX11_ends_14 : decode cX11_ends 14 = .ok (.aload_n 0, 1) := by decide +kernel
theorem dX11_ends_15 : decode cX11_ends 15 = .ok (.getfield 25, 3) := by decide +kernel
theorem dX11_ends_18 : decode cX11_ends 18 = .ok (.iconst 0, 1) := by decide +kernel
theorem dX11_ends_19 : decode cX11_ends 19 = .ok (.invokevirtual 269, 3) := by decide +kernel
theorem dX11_ends_22 : decode cX11_ends 22 = .ok (.aload_n 0, 1) := by decide +kernel
theorem dX11_ends_23 : decode cX11_ends 23 = .ok (.getfield 42, 3) := by decide +kernel
theorem dX11_ends_26 : decode cX11_ends 26 = .ok (.aload_n 0, 1) := by decide +kernel
theorem dX11_ends_27 : decode cX11_ends 27 = .ok (.getfield 35, 3) := by decide +kernel
theorem dX11_ends_30 : decode cX11_ends 30 = .ok (.invokevirtual 280, 3) := by decide +kernel
theorem dX11_ends_33 : decode cX11_ends 33 = .ok (.iconst 0, 1) := by decide +kernel
theorem dX11_ends_34 : decode cX11_ends 34 = .ok (.istore_n 2, 1) := by decide +kernel
theorem dX11_ends_35 : decode cX11_ends 35 = .ok (.iload_n 2, 1) := by decide +kernel
theorem dX11_ends_36 : decode cX11_ends 36 = .ok (.sipush 199, 3) := by decide +kernel
theorem dX11_ends_39 : decode cX11_ends 39 = .ok (.if_icmp .gt 37, 3) := by decide +kernel
theorem dX11_ends_42 : decode cX11_ends 42 = .ok (.aload_n 0, 1) := by decide +kernel
theorem dX11_ends_43 : decode cX11_ends 43 = .ok (.getfield 42, 3) := by decide +kernel
theorem dX11_ends_46 : decode cX11_ends 46 = .ok (.iload_n 1, 1) := by decide +kernel
theorem dX11_ends_47 : decode cX11_ends 47 = .ok (.invokevirtual 131, 3) := by decide +kernel
theorem dX11_ends_50 : decode cX11_ends 50 = .ok (.ifCond .ne 5, 3) := by decide +kernel
theorem dX11_ends_53 : decode cX11_ends 53 = .ok (.iload_n 2, 1) := by decide +kernel
theorem dX11_ends_54 : decode cX11_ends 54 = .ok (.ireturn, 1) := by decide +kernel
theorem dX11_ends_55 : decode cX11_ends 55 = .ok (.aload_n 0, 1) := by decide +kernel
theorem dX11_ends_56 : decode cX11_ends 56 = .ok (.getfield 48, 3) := by decide +kernel
theorem dX11_ends_59 : decode cX11_ends 59 = .ok (.aload_n 0, 1) := by decide +kernel
theorem dX11_ends_60 : decode cX11_ends 60 = .ok (.getfield 42, 3) := by decide +kernel
theorem dX11_ends_63 : decode cX11_ends 63 = .ok (.iconst 1, 1) := by decide +kernel
theorem dX11_ends_64 : decode cX11_ends 64 = .ok (.iload_n 1, 1) := by decide +kernel
theorem dX11_ends_65 : decode cX11_ends 65 = .ok (.ishl, 1) := by decide +kernel
theorem dX11_ends_66 : decode cX11_ends 66 = .ok (.iconst 0, 1) := by decide +kernel
theorem dX11_ends_67 : decode cX11_ends 67 = .ok (.invokevirtual 272, 3) := by decide +kernel
theorem dX11_ends_70 : decode cX11_ends 70 = .ok (.iinc 2 1, 3) := by decide +kernel
theorem dX11_ends_73 : decode cX11_ends 73 = .ok (.goto (-38), 3) := by decide +kernel
theorem dX11_ends_76 : decode cX11_ends 76 = .ok (.bipush (-2), 2) := by decide +kernel
theorem dX11_ends_78 : decode cX11_ends 78 = .ok (.ireturn, 1) := by decide +kernel
theorem dX11_alike_0 : decode cX11_alike 0 = .ok (.aload_n 0, 1) := by decide +kernel
theorem dX11_alike_1 : decode cX11_alike 1 = .ok (.iload_n 1, 1) := by decide +kernel
theorem dX11_alike_2 : decode cX11_alike 2 = .ok (.iload_n 2, 1) := by decide +kernel
theorem dX11_alike_3 : decode cX11_alike 3 = .ok (.invokevirtual 286, 3) := by decide +kernel
theorem dX11_alike_6 : decode cX11_alike 6 = .ok (.ifCond .ne 5, 3) := by decide +kernel
theorem dX11_alike_9 : decode cX11_alike 9 = .ok (.iconst (-1), 1) := by decide +kernel
theorem dX11_alike_10 : decode cX11_alike 10 = .ok (.ireturn, 1) := by decide +kernel
theorem dX11_alike_11 : decode cX11_alike 11 = .ok (.aload_n 0, 1) := by decide +kernel
theorem dX11_alike_12 : decode cX11_alike 12 = .ok (.getfield 48, 3) := by decide +kernel
theorem dX11_alike_15 : decode cX11_alike 15 = .ok (.aload_n 0, 1) := by decide +kernel
theorem dX11_alike_16 : decode cX11_alike 16 = .ok (.getfield 25, 3) := by decide +kernel
theorem dX11_alike_19 : decode cX11_alike 19 = .ok (.iconst 0, 1) := by decide +kernel
theorem dX11_alike_20 : decode cX11_alike 20 = .ok (.invokevirtual 269, 3) := by decide +kernel
theorem dX11_alike_23 : decode cX11_alike 23 = .ok (.aload_n 0, 1) := by decide +kernel
theorem dX11_alike_24 : decode cX11_alike 24 = .ok (.getfield 42, 3) := by decide +kernel
theorem dX11_alike_27 : decode cX11_alike 27 = .ok (.aload_n 0, 1) := by decide +kernel
theorem dX11_alike_28 : decode cX11_alike 28 = .ok (.getfield 35, 3) := by decide +kernel
theorem dX11_alike_31 : decode cX11_alike 31 = .ok (.invokevirtual 280, 3) := by decide +kernel
theorem dX11_alike_34 : decode cX11_alike 34 = .ok (.iconst 0, 1) := by decide +kernel
theorem dX11_alike_35 : decode cX11_alike 35 = .ok (.istore_n 3, 1) := by decide +kernel
theorem dX11_alike_36 : decode cX11_alike 36 = .ok (.iload_n 3, 1) := by decide +kernel
theorem dX11_alike_37 : decode cX11_alike 37 = .ok (.sipush 199, 3) := by decide +kernel
theorem dX11_alike_40 : decode cX11_alike 40 = .ok (.if_icmp .gt 49, 3) := by decide +kernel
theorem dX11_alike_43 : decode cX11_alike 43 = .ok (.aload_n 0, 1) := by decide +kernel
theorem dX11_alike_44 : decode cX11_alike 44 = .ok (.getfield 42, 3) := by decide +kernel
theorem dX11_alike_47 : decode cX11_alike 47 = .ok (.iload_n 1, 1) := by decide +kernel
theorem dX11_alike_48 : decode cX11_alike 48 = .ok (.invokevirtual 131, 3) := by decide +kernel
theorem dX11_alike_51 : decode cX11_alike 51 = .ok (.aload_n 0, 1) := by decide +kernel
theorem dX11_alike_52 : decode cX11_alike 52 = .ok (.getfield 42, 3) := by decide +kernel
theorem dX11_alike_55 : decode cX11_alike 55 = .ok (.iload_n 2, 1) := by decide +kernel
theorem dX11_alike_56 : decode cX11_alike 56 = .ok (.invokevirtual 131, 3) := by decide +kernel
theorem dX11_alike_59 : decode cX11_alike 59 = .ok (.if_icmp .ne 5, 3) := by decide +kernel
theorem dX11_alike_62 : decode cX11_alike 62 = .ok (.iload_n 3, 1) := by decide +kernel
theorem dX11_alike_63 : decode cX11_alike 63 = .ok (.ireturn, 1) := by decide +kernel
theorem dX11_alike_64 : decode cX11_alike 64 = .ok (.aload_n 0, 1) := by decide +kernel
theorem dX11_alike_65 : decode cX11_alike 65 = .ok (.getfield 48, 3) := by decide +kernel
theorem dX11_alike_68 : decode cX11_alike 68 = .ok (.aload_n 0, 1) := by decide +kernel
theorem dX11_alike_69 : decode cX11_alike 69 = .ok (.getfield 42, 3) := by decide +kernel
theorem dX11_alike_72 : decode cX11_alike 72 = .ok (.iconst 1, 1) := by decide +kernel
theorem dX11_alike_73 : decode cX11_alike 73 = .ok (.iload_n 1, 1) := by decide +kernel
theorem dX11_alike_74 : decode cX11_alike 74 = .ok (.ishl, 1) := by decide +kernel
theorem dX11_alike_75 : decode cX11_alike 75 = .ok (.iconst 1, 1) := by decide +kernel
theorem dX11_alike_76 : decode cX11_alike 76 = .ok (.iload_n 2, 1) := by decide +kernel
theorem dX11_alike_77 : decode cX11_alike 77 = .ok (.ishl, 1) := by decide +kernel
theorem dX11_alike_78 : decode cX11_alike 78 = .ok (.ior, 1) := by decide +kernel
theorem dX11_alike_79 : decode cX11_alike 79 = .ok (.iconst 0, 1) := by decide +kernel
theorem dX11_alike_80 : decode cX11_alike 80 = .ok (.invokevirtual 272, 3) := by decide +kernel
theorem dX11_alike_83 : decode cX11_alike 83 = .ok (.iinc 3 1, 3) := by decide +kernel
theorem dX11_alike_86 : decode cX11_alike 86 = .ok (.goto (-50), 3) := by decide +kernel
theorem dX11_alike_89 : decode cX11_alike 89 = .ok (.bipush (-2), 2) := by decide +kernel
theorem dX11_alike_91 : decode cX11_alike 91 = .ok (.ireturn, 1) := by decide +kernel
theorem dX11_tried_0 : decode cX11_tried 0 = .ok (.iload_n 1, 1) := by decide +kernel
theorem dX11_tried_1 : decode cX11_tried 1 = .ok (.ifCond .lt 19, 3) := by decide +kernel
theorem dX11_tried_4 : decode cX11_tried 4 = .ok (.iload_n 1, 1) := by decide +kernel
theorem dX11_tried_5 : decode cX11_tried 5 = .ok (.iconst 4, 1) := by decide +kernel
theorem dX11_tried_6 : decode cX11_tried 6 = .ok (.if_icmp .gt 14, 3) := by decide +kernel
theorem dX11_tried_9 : decode cX11_tried 9 = .ok (.iload_n 3, 1) := by decide +kernel
theorem dX11_tried_10 : decode cX11_tried 10 = .ok (.ifCond .lt 10, 3) := by decide +kernel
theorem dX11_tried_13 : decode cX11_tried 13 = .ok (.iload_n 3, 1) := by decide +kernel
theorem dX11_tried_14 : decode cX11_tried 14 = .ok (.sipush 200, 3) := by decide +kernel
theorem dX11_tried_17 : decode cX11_tried 17 = .ok (.if_icmp .le 5, 3) := by decide +kernel
theorem dX11_tried_20 : decode cX11_tried 20 = .ok (.iconst (-1), 1) := by decide +kernel
theorem dX11_tried_21 : decode cX11_tried 21 = .ok (.ireturn, 1) := by decide +kernel
theorem dX11_tried_22 : decode cX11_tried 22 = .ok (.iload_n 1, 1) := by decide +kernel
theorem dX11_tried_23 : decode cX11_tried 23 = .ok (.iconst 2, 1) := by decide +kernel
theorem dX11_tried_24 : decode cX11_tried 24 = .ok (.if_icmp .ne 14, 3) := by decide +kernel
theorem dX11_tried_27 : decode cX11_tried 27 = .ok (.aload_n 0, 1) := by decide +kernel
theorem dX11_tried_28 : decode cX11_tried 28 = .ok (.iload_n 2, 1) := by decide +kernel
theorem dX11_tried_29 : decode cX11_tried 29 = .ok (.invokevirtual 120, 3) := by decide +kernel
theorem dX11_tried_32 : decode cX11_tried 32 = .ok (.ifCond .ne 12, 3) := by decide +kernel
theorem dX11_tried_35 : decode cX11_tried 35 = .ok (.goto 7, 3) := by decide +kernel
theorem dX11_tried_38 : decode cX11_tried 38 = .ok (.iload_n 2, 1) := by decide +kernel
theorem dX11_tried_39 : decode cX11_tried 39 = .ok (.ifCond .eq 5, 3) := by decide +kernel
theorem dX11_tried_42 : decode cX11_tried 42 = .ok (.iconst (-1), 1) := by decide +kernel
theorem dX11_tried_43 : decode cX11_tried 43 = .ok (.ireturn, 1) := by decide +kernel
theorem dX11_tried_44 : decode cX11_tried 44 = .ok (.aload_n 0, 1) := by decide +kernel
theorem dX11_tried_45 : decode cX11_tried 45 = .ok (.getfield 48, 3) := by decide +kernel
theorem dX11_tried_48 : decode cX11_tried 48 = .ok (.aload_n 0, 1) := by decide +kernel
theorem dX11_tried_49 : decode cX11_tried 49 = .ok (.getfield 25, 3) := by decide +kernel
theorem dX11_tried_52 : decode cX11_tried 52 = .ok (.iload_n 1, 1) := by decide +kernel
theorem dX11_tried_53 : decode cX11_tried 53 = .ok (.ifCond .ne 7, 3) := by decide +kernel
theorem dX11_tried_56 : decode cX11_tried 56 = .ok (.iconst 2, 1) := by decide +kernel
theorem dX11_tried_57 : decode cX11_tried 57 = .ok (.goto 13, 3) := by decide +kernel
theorem dX11_tried_60 : decode cX11_tried 60 = .ok (.iload_n 1, 1) := by decide +kernel
theorem dX11_tried_61 : decode cX11_tried 61 = .ok (.iconst 1, 1) := by decide +kernel
theorem dX11_tried_62 : decode cX11_tried 62 = .ok (.if_icmp .ne 7, 3) := by decide +kernel
theorem dX11_tried_65 : decode cX11_tried 65 = .ok (.iconst 3, 1) := by decide +kernel
theorem dX11_tried_66 : decode cX11_tried 66 = .ok (.goto 4, 3) := by decide +kernel
theorem dX11_tried_69 : decode cX11_tried 69 = .ok (.iconst 0, 1) := by decide +kernel
theorem dX11_tried_70 : decode cX11_tried 70 = .ok (.invokevirtual 269, 3) := by decide +kernel
theorem dX11_tried_73 : decode cX11_tried 73 = .ok (.aload_n 0, 1) := by decide +kernel
theorem dX11_tried_74 : decode cX11_tried 74 = .ok (.getfield 48, 3) := by decide +kernel
theorem dX11_tried_77 : decode cX11_tried 77 = .ok (.iload_n 1, 1) := by decide +kernel
theorem dX11_tried_78 : decode cX11_tried 78 = .ok (.iconst 2, 1) := by decide +kernel
theorem dX11_tried_79 : decode cX11_tried 79 = .ok (.if_icmp .ne 7, 3) := by decide +kernel
theorem dX11_tried_82 : decode cX11_tried 82 = .ok (.iload_n 2, 1) := by decide +kernel
theorem dX11_tried_83 : decode cX11_tried 83 = .ok (.goto 4, 3) := by decide +kernel
theorem dX11_tried_86 : decode cX11_tried 86 = .ok (.iconst (-1), 1) := by decide +kernel
theorem dX11_tried_87 : decode cX11_tried 87 = .ok (.putfield 289, 3) := by decide +kernel
theorem dX11_tried_90 : decode cX11_tried 90 = .ok (.aload_n 0, 1) := by decide +kernel
theorem dX11_tried_91 : decode cX11_tried 91 = .ok (.getfield 48, 3) := by decide +kernel
theorem dX11_tried_94 : decode cX11_tried 94 = .ok (.iload_n 1, 1) := by decide +kernel
theorem dX11_tried_95 : decode cX11_tried 95 = .ok (.iconst 3, 1) := by decide +kernel
theorem dX11_tried_96 : decode cX11_tried 96 = .ok (.if_icmp .ne 7, 3) := by decide +kernel
theorem dX11_tried_99 : decode cX11_tried 99 = .ok (.iconst 1, 1) := by decide +kernel
theorem dX11_tried_100 : decode cX11_tried 100 = .ok (.goto 4, 3) := by decide +kernel
theorem dX11_tried_103 : decode cX11_tried 103 = .ok (.iconst 0, 1) := by decide +kernel
theorem dX11_tried_104 : decode cX11_tried 104 = .ok (.putfield 292, 3) := by decide +kernel
theorem dX11_tried_107 : decode cX11_tried 107 = .ok (.aload_n 0, 1) := by decide +kernel
theorem dX11_tried_108 : decode cX11_tried 108 = .ok (.getfield 48, 3) := by decide +kernel
theorem dX11_tried_111 : decode cX11_tried 111 = .ok (.iload_n 1, 1) := by decide +kernel
theorem dX11_tried_112 : decode cX11_tried 112 = .ok (.iconst 4, 1) := by decide +kernel
theorem dX11_tried_113 : decode cX11_tried 113 = .ok (.if_icmp .ne 7, 3) := by decide +kernel
theorem dX11_tried_116 : decode cX11_tried 116 = .ok (.iconst 1, 1) := by decide +kernel
theorem dX11_tried_117 : decode cX11_tried 117 = .ok (.goto 4, 3) := by decide +kernel
theorem dX11_tried_120 : decode cX11_tried 120 = .ok (.iconst 0, 1) := by decide +kernel
theorem dX11_tried_121 : decode cX11_tried 121 = .ok (.putfield 295, 3) := by decide +kernel
theorem dX11_tried_124 : decode cX11_tried 124 = .ok (.aload_n 0, 1) := by decide +kernel
theorem dX11_tried_125 : decode cX11_tried 125 = .ok (.getfield 42, 3) := by decide +kernel
theorem dX11_tried_128 : decode cX11_tried 128 = .ok (.aload_n 0, 1) := by decide +kernel
theorem dX11_tried_129 : decode cX11_tried 129 = .ok (.getfield 35, 3) := by decide +kernel
theorem dX11_tried_132 : decode cX11_tried 132 = .ok (.invokevirtual 280, 3) := by decide +kernel
theorem dX11_tried_135 : decode cX11_tried 135 = .ok (.iconst 0, 1) := by decide +kernel
theorem dX11_tried_136 : decode cX11_tried 136 = .ok (.istore 4, 2) := by decide +kernel
theorem dX11_tried_138 : decode cX11_tried 138 = .ok (.iload 4, 2) := by decide +kernel
theorem dX11_tried_140 : decode cX11_tried 140 = .ok (.iload_n 3, 1) := by decide +kernel
theorem dX11_tried_141 : decode cX11_tried 141 = .ok (.if_icmp .ge 23, 3) := by decide +kernel
theorem dX11_tried_144 : decode cX11_tried 144 = .ok (.aload_n 0, 1) := by decide +kernel
theorem dX11_tried_145 : decode cX11_tried 145 = .ok (.getfield 48, 3) := by decide +kernel
theorem dX11_tried_148 : decode cX11_tried 148 = .ok (.aload_n 0, 1) := by decide +kernel
theorem dX11_tried_149 : decode cX11_tried 149 = .ok (.getfield 42, 3) := by decide +kernel
theorem dX11_tried_152 : decode cX11_tried 152 = .ok (.bipush 63, 2) := by decide +kernel
theorem dX11_tried_154 : decode cX11_tried 154 = .ok (.iconst 0, 1) := by decide +kernel
theorem dX11_tried_155 : decode cX11_tried 155 = .ok (.invokevirtual 272, 3) := by decide +kernel
theorem dX11_tried_158 : decode cX11_tried 158 = .ok (.iinc 4 1, 3) := by decide +kernel
theorem dX11_tried_161 : decode cX11_tried 161 = .ok (.goto (-23), 3) := by decide +kernel
theorem dX11_tried_164 : decode cX11_tried 164 = .ok (.aload_n 0, 1) := by decide +kernel
theorem dX11_tried_165 : decode cX11_tried 165 = .ok (.getfield 42, 3) := by decide +kernel
theorem dX11_tried_168 : decode cX11_tried 168 = .ok (.invokevirtual 218, 3) := by decide +kernel
theorem dX11_tried_171 : decode cX11_tried 171 = .ok (.ireturn, 1) := by decide +kernel
theorem dX11_chance_0 : decode cX11_chance 0 = .ok (.iload_n 1, 1) := by decide +kernel
theorem dX11_chance_1 : decode cX11_chance 1 = .ok (.ifCond .lt 34, 3) := by decide +kernel
theorem dX11_chance_4 : decode cX11_chance 4 = .ok (.iload_n 2, 1) := by decide +kernel
theorem dX11_chance_5 : decode cX11_chance 5 = .ok (.iconst 1, 1) := by decide +kernel
theorem dX11_chance_6 : decode cX11_chance 6 = .ok (.if_icmp .lt 29, 3) := by decide +kernel
theorem dX11_chance_9 : decode cX11_chance 9 = .ok (.iload_n 2, 1) := by decide +kernel
theorem dX11_chance_10 : decode cX11_chance 10 = .ok (.bipush 99, 2) := by decide +kernel
theorem dX11_chance_12 : decode cX11_chance 12 = .ok (.if_icmp .gt 23, 3) := by decide +kernel
theorem dX11_chance_15 : decode cX11_chance 15 = .ok (.aload_n 0, 1) := by decide +kernel
theorem dX11_chance_16 : decode cX11_chance 16 = .ok (.iload_n 3, 1) := by decide +kernel
theorem dX11_chance_17 : decode cX11_chance 17 = .ok (.invokevirtual 120, 3) := by decide +kernel
theorem dX11_chance_20 : decode cX11_chance 20 = .ok (.ifCond .eq 15, 3) := by decide +kernel
theorem dX11_chance_23 : decode cX11_chance 23 = .ok (.iload 4, 2) := by decide +kernel
theorem dX11_chance_25 : decode cX11_chance 25 = .ok (.ifCond .lt 10, 3) := by decide +kernel
theorem dX11_chance_28 : decode cX11_chance 28 = .ok (.iload 4, 2) := by decide +kernel
theorem dX11_chance_30 : decode cX11_chance 30 = .ok (.bipush 60, 2) := by decide +kernel
theorem dX11_chance_32 : decode cX11_chance 32 = .ok (.if_icmp .le 5, 3) := by decide +kernel
theorem dX11_chance_35 : decode cX11_chance 35 = .ok (.iconst (-1), 1) := by decide +kernel
theorem dX11_chance_36 : decode cX11_chance 36 = .ok (.ireturn, 1) := by decide +kernel
theorem dX11_chance_37 : decode cX11_chance 37 = .ok (.aload_n 0, 1) := by decide +kernel
theorem dX11_chance_38 : decode cX11_chance 38 = .ok (.getfield 48, 3) := by decide +kernel
theorem dX11_chance_41 : decode cX11_chance 41 = .ok (.aload_n 0, 1) := by decide +kernel
theorem dX11_chance_42 : decode cX11_chance 42 = .ok (.getfield 25, 3) := by decide +kernel
theorem dX11_chance_45 : decode cX11_chance 45 = .ok (.iconst 1, 1) := by decide +kernel
theorem dX11_chance_46 : decode cX11_chance 46 = .ok (.invokevirtual 269, 3) := by decide +kernel
theorem dX11_chance_49 : decode cX11_chance 49 = .ok (.iload_n 1, 1) := by decide +kernel
theorem dX11_chance_50 : decode cX11_chance 50 = .ok (.istore 5, 2) := by decide +kernel
theorem dX11_chance_52 : decode cX11_chance 52 = .ok (.iconst 0, 1) := by decide +kernel
theorem dX11_chance_53 : decode cX11_chance 53 = .ok (.istore 6, 2) := by decide +kernel
theorem dX11_chance_55 : decode cX11_chance 55 = .ok (.iconst 0, 1) := by decide +kernel
theorem dX11_chance_56 : decode cX11_chance 56 = .ok (.istore 7, 2) := by decide +kernel
theorem dX11_chance_58 : decode cX11_chance 58 = .ok (.iload 7, 2) := by decide +kernel
theorem dX11_chance_60 : decode cX11_chance 60 = .ok (.bipush 10, 2) := by decide +kernel
theorem dX11_chance_62 : decode cX11_chance 62 = .ok (.if_icmp .ge 84, 3) := by decide +kernel
theorem dX11_chance_65 : decode cX11_chance 65 = .ok (.aload_n 0, 1) := by decide +kernel
theorem dX11_chance_66 : decode cX11_chance 66 = .ok (.getfield 42, 3) := by decide +kernel
theorem dX11_chance_69 : decode cX11_chance 69 = .ok (.aload_n 0, 1) := by decide +kernel
theorem dX11_chance_70 : decode cX11_chance 70 = .ok (.getfield 35, 3) := by decide +kernel
theorem dX11_chance_73 : decode cX11_chance 73 = .ok (.invokevirtual 280, 3) := by decide +kernel
theorem dX11_chance_76 : decode cX11_chance 76 = .ok (.aload_n 0, 1) := by decide +kernel
theorem dX11_chance_77 : decode cX11_chance 77 = .ok (.getfield 42, 3) := by decide +kernel
theorem dX11_chance_80 : decode cX11_chance 80 = .ok (.iload 5, 2) := by decide +kernel
theorem dX11_chance_82 : decode cX11_chance 82 = .ok (.putfield 298, 3) := by decide +kernel
theorem dX11_chance_85 : decode cX11_chance 85 = .ok (.iconst 0, 1) := by decide +kernel
theorem dX11_chance_86 : decode cX11_chance 86 = .ok (.istore 8, 2) := by decide +kernel
theorem dX11_chance_88 : decode cX11_chance 88 = .ok (.iload 8, 2) := by decide +kernel
theorem dX11_chance_90 : decode cX11_chance 90 = .ok (.iload_n 2, 1) := by decide +kernel
theorem dX11_chance_91 : decode cX11_chance 91 = .ok (.if_icmp .ge 24, 3) := by decide +kernel
theorem dX11_chance_94 : decode cX11_chance 94 = .ok (.aload_n 0, 1) := by decide +kernel
theorem dX11_chance_95 : decode cX11_chance 95 = .ok (.getfield 48, 3) := by decide +kernel
theorem dX11_chance_98 : decode cX11_chance 98 = .ok (.aload_n 0, 1) := by decide +kernel
theorem dX11_chance_99 : decode cX11_chance 99 = .ok (.getfield 42, 3) := by decide +kernel
theorem dX11_chance_102 : decode cX11_chance 102 = .ok (.iconst 1, 1) := by decide +kernel
theorem dX11_chance_103 : decode cX11_chance 103 = .ok (.iload_n 3, 1) := by decide +kernel
theorem dX11_chance_104 : decode cX11_chance 104 = .ok (.ishl, 1) := by decide +kernel
theorem dX11_chance_105 : decode cX11_chance 105 = .ok (.iconst 0, 1) := by decide +kernel
theorem dX11_chance_106 : decode cX11_chance 106 = .ok (.invokevirtual 272, 3) := by decide +kernel
theorem dX11_chance_109 : decode cX11_chance 109 = .ok (.iinc 8 1, 3) := by decide +kernel
theorem dX11_chance_112 : decode cX11_chance 112 = .ok (.goto (-24), 3) := by decide +kernel
theorem dX11_chance_115 : decode cX11_chance 115 = .ok (.aload_n 0, 1) := by decide +kernel
theorem dX11_chance_116 : decode cX11_chance 116 = .ok (.getfield 42, 3) := by decide +kernel
theorem dX11_chance_119 : decode cX11_chance 119 = .ok (.getfield 298, 3) := by decide +kernel
theorem dX11_chance_122 : decode cX11_chance 122 = .ok (.istore 5, 2) := by decide +kernel
theorem dX11_chance_124 : decode cX11_chance 124 = .ok (.aload_n 0, 1) := by decide +kernel
theorem dX11_chance_125 : decode cX11_chance 125 = .ok (.getfield 42, 3) := by decide +kernel
theorem dX11_chance_128 : decode cX11_chance 128 = .ok (.iload_n 3, 1) := by decide +kernel
theorem dX11_chance_129 : decode cX11_chance 129 = .ok (.invokevirtual 131, 3) := by decide +kernel
theorem dX11_chance_132 : decode cX11_chance 132 = .ok (.iload 4, 2) := by decide +kernel
theorem dX11_chance_134 : decode cX11_chance 134 = .ok (.if_icmp .lt 6, 3) := by decide +kernel
theorem dX11_chance_137 : decode cX11_chance 137 = .ok (.iinc 6 1, 3) := by decide +kernel
theorem dX11_chance_140 : decode cX11_chance 140 = .ok (.iinc 7 1, 3) := by decide +kernel
theorem dX11_chance_143 : decode cX11_chance 143 = .ok (.goto (-85), 3) := by decide +kernel
theorem dX11_chance_146 : decode cX11_chance 146 = .ok (.iload 6, 2) := by decide +kernel
theorem dX11_chance_148 : decode cX11_chance 148 = .ok (.ireturn, 1) := by decide +kernel
theorem dX11_calm_0 : decode cX11_calm 0 = .ok (.iload_n 1, 1) := by decide +kernel
theorem dX11_calm_1 : decode cX11_calm 1 = .ok (.ifCond .lt 18, 3) := by decide +kernel
theorem dX11_calm_4 : decode cX11_calm 4 = .ok (.iload_n 1, 1) := by decide +kernel
theorem dX11_calm_5 : decode cX11_calm 5 = .ok (.bipush 6, 2) := by decide +kernel
theorem dX11_calm_7 : decode cX11_calm 7 = .ok (.if_icmp .gt 12, 3) := by decide +kernel
theorem dX11_calm_10 : decode cX11_calm 10 = .ok (.iload_n 2, 1) := by decide +kernel
theorem dX11_calm_11 : decode cX11_calm 11 = .ok (.ifCond .eq 12, 3) := by decide +kernel
theorem dX11_calm_14 : decode cX11_calm 14 = .ok (.iload_n 2, 1) := by decide +kernel
theorem dX11_calm_15 : decode cX11_calm 15 = .ok (.iconst 1, 1) := by decide +kernel
theorem dX11_calm_16 : decode cX11_calm 16 = .ok (.if_icmp .eq 7, 3) := by decide +kernel
theorem dX11_calm_19 : decode cX11_calm 19 = .ok (.ldc2_w 301, 3) := by decide +kernel
theorem dX11_calm_22 : decode cX11_calm 22 = .ok (.lreturn, 1) := by decide +kernel
theorem dX11_calm_23 : decode cX11_calm 23 = .ok (.iconst 1, 1) := by decide +kernel
theorem dX11_calm_24 : decode cX11_calm 24 = .ok (.bipush 100, 2) := by decide +kernel
theorem dX11_calm_26 : decode cX11_calm 26 = .ok (.aload_n 0, 1) := by decide +kernel
theorem dX11_calm_27 : decode cX11_calm 27 = .ok (.getfield 25, 3) := by decide +kernel
theorem dX11_calm_30 : decode cX11_calm 30 = .ok (.getfield 303, 3) := by decide +kernel
theorem dX11_calm_33 : decode cX11_calm 33 = .ok (.isub, 1) := by decide +kernel
theorem dX11_calm_34 : decode cX11_calm 34 = .ok (.bipush 100, 2) := by decide +kernel
theorem dX11_calm_36 : decode cX11_calm 36 = .ok (.invokestatic 306, 3) := by decide +kernel
theorem dX11_calm_39 : decode cX11_calm 39 = .ok (.invokestatic 310, 3) := by decide +kernel
theorem dX11_calm_42 : decode cX11_calm 42 = .ok (.istore_n 3, 1) := by decide +kernel
theorem dX11_calm_43 : decode cX11_calm 43 = .ok (.iload_n 2, 1) := by decide +kernel
theorem dX11_calm_44 : decode cX11_calm 44 = .ok (.ifCond .ne 16, 3) := by decide +kernel
theorem dX11_calm_47 : decode cX11_calm 47 = .ok (.bipush 100, 2) := by decide +kernel
theorem dX11_calm_49 : decode cX11_calm 49 = .ok (.aload_n 0, 1) := by decide +kernel
theorem dX11_calm_50 : decode cX11_calm 50 = .ok (.getfield 25, 3) := by decide +kernel
theorem dX11_calm_53 : decode cX11_calm 53 = .ok (.getfield 303, 3) := by decide +kernel
theorem dX11_calm_56 : decode cX11_calm 56 = .ok (.isub, 1) := by decide +kernel
theorem dX11_calm_57 : decode cX11_calm 57 = .ok (.goto 5, 3) := by decide +kernel
theorem dX11_calm_60 : decode cX11_calm 60 = .ok (.bipush 100, 2) := by decide +kernel
theorem dX11_calm_62 : decode cX11_calm 62 = .ok (.iload_n 3, 1) := by decide +kernel
theorem dX11_calm_63 : decode cX11_calm 63 = .ok (.idiv, 1) := by decide +kernel
theorem dX11_calm_64 : decode cX11_calm 64 = .ok (.i2l, 1) := by decide +kernel
theorem dX11_calm_65 : decode cX11_calm 65 = .ok (.lstore 4, 2) := by decide +kernel
theorem dX11_calm_67 : decode cX11_calm 67 = .ok (.lconst 1, 1) := by decide +kernel
theorem dX11_calm_68 : decode cX11_calm 68 = .ok (.lstore 6, 2) := by decide +kernel
theorem dX11_calm_70 : decode cX11_calm 70 = .ok (.iconst 0, 1) := by decide +kernel
theorem dX11_calm_71 : decode cX11_calm 71 = .ok (.istore 8, 2) := by decide +kernel
theorem dX11_calm_73 : decode cX11_calm 73 = .ok (.iload 8, 2) := by decide +kernel
theorem dX11_calm_75 : decode cX11_calm 75 = .ok (.iload_n 1, 1) := by decide +kernel
theorem dX11_calm_76 : decode cX11_calm 76 = .ok (.if_icmp .ge 16, 3) := by decide +kernel
theorem dX11_calm_79 : decode cX11_calm 79 = .ok (.lload 6, 2) := by decide +kernel
theorem dX11_calm_81 : decode cX11_calm 81 = .ok (.lload 4, 2) := by decide +kernel
theorem dX11_calm_83 : decode cX11_calm 83 = .ok (.lmul, 1) := by decide +kernel
theorem dX11_calm_84 : decode cX11_calm 84 = .ok (.lstore 6, 2) := by decide +kernel
theorem dX11_calm_86 : decode cX11_calm 86 = .ok (.iinc 8 1, 3) := by decide +kernel
theorem dX11_calm_89 : decode cX11_calm 89 = .ok (.goto (-16), 3) := by decide +kernel
theorem dX11_calm_92 : decode cX11_calm 92 = .ok (.lload 6, 2) := by decide +kernel
theorem dX11_calm_94 : decode cX11_calm 94 = .ok (.lreturn, 1) := by decide +kernel
theorem dX11_commonDivisor_0 : decode cX11_commonDivisor 0 = .ok (.iload_n 1, 1) := by decide +kernel
theorem dX11_commonDivisor_1 : decode cX11_commonDivisor 1 = .ok (.istore_n 2, 1) := by decide +kernel
theorem dX11_commonDivisor_2 : decode cX11_commonDivisor 2 = .ok (.iload_n 0, 1) := by decide +kernel
theorem dX11_commonDivisor_3 : decode cX11_commonDivisor 3 = .ok (.istore_n 3, 1) := by decide +kernel
theorem dX11_commonDivisor_4 : decode cX11_commonDivisor 4 = .ok (.iconst 0, 1) := by decide +kernel
theorem dX11_commonDivisor_5 : decode cX11_commonDivisor 5 = .ok (.istore 4, 2) := by decide +kernel
theorem dX11_commonDivisor_7 : decode cX11_commonDivisor 7 = .ok (.iload 4, 2) := by decide +kernel
theorem dX11_commonDivisor_9 : decode cX11_commonDivisor 9 = .ok (.bipush 100, 2) := by decide +kernel
theorem dX11_commonDivisor_11 : decode cX11_commonDivisor 11 = .ok (.if_icmp .ge 23, 3) := by decide +kernel
theorem dX11_commonDivisor_14 : decode cX11_commonDivisor 14 = .ok (.iload_n 3, 1) := by decide +kernel
theorem dX11_commonDivisor_15 : decode cX11_commonDivisor 15 = .ok (.ifCond .eq 19, 3) := by decide +kernel
theorem dX11_commonDivisor_18 : decode cX11_commonDivisor 18 = .ok (.iload_n 2, 1) := by decide +kernel
theorem dX11_commonDivisor_19 : decode cX11_commonDivisor 19 = .ok (.iload_n 3, 1) := by decide +kernel
theorem dX11_commonDivisor_20 : decode cX11_commonDivisor 20 = .ok (.irem, 1) := by decide +kernel
theorem dX11_commonDivisor_21 : decode cX11_commonDivisor 21 = .ok (.istore 5, 2) := by decide +kernel
theorem dX11_commonDivisor_23 : decode cX11_commonDivisor 23 = .ok (.iload_n 3, 1) := by decide +kernel
theorem dX11_commonDivisor_24 : decode cX11_commonDivisor 24 = .ok (.istore_n 2, 1) := by decide +kernel
theorem dX11_commonDivisor_25 : decode cX11_commonDivisor 25 = .ok (.iload 5, 2) := by decide +kernel
theorem dX11_commonDivisor_27 : decode cX11_commonDivisor 27 = .ok (.istore_n 3, 1) := by decide +kernel
theorem dX11_commonDivisor_28 : decode cX11_commonDivisor 28 = .ok (.iinc 4 1, 3) := by decide +kernel
theorem dX11_commonDivisor_31 : decode cX11_commonDivisor 31 = .ok (.goto (-24), 3) := by decide +kernel
theorem dX11_commonDivisor_34 : decode cX11_commonDivisor 34 = .ok (.iload_n 2, 1) := by decide +kernel
theorem dX11_commonDivisor_35 : decode cX11_commonDivisor 35 = .ok (.ireturn, 1) := by decide +kernel
theorem dX11_keepInch_0 : decode cX11_keepInch 0 = .ok (.aload_n 0, 1) := by decide +kernel
theorem dX11_keepInch_1 : decode cX11_keepInch 1 = .ok (.iload_n 1, 1) := by decide +kernel
theorem dX11_keepInch_2 : decode cX11_keepInch 2 = .ok (.invokevirtual 120, 3) := by decide +kernel
theorem dX11_keepInch_5 : decode cX11_keepInch 5 = .ok (.ifCond .eq 10, 3) := by decide +kernel
theorem dX11_keepInch_8 : decode cX11_keepInch 8 = .ok (.iload_n 2, 1) := by decide +kernel
theorem dX11_keepInch_9 : decode cX11_keepInch 9 = .ok (.invokestatic 161, 3) := by decide +kernel
theorem dX11_keepInch_12 : decode cX11_keepInch 12 = .ok (.ifCond .ne 5, 3) := by decide +kernel
theorem dX11_keepInch_15 : decode cX11_keepInch 15 = .ok (.iconst (-1), 1) := by decide +kernel
theorem dX11_keepInch_16 : decode cX11_keepInch 16 = .ok (.ireturn, 1) := by decide +kernel
theorem dX11_keepInch_17 : decode cX11_keepInch 17 = .ok (.aload_n 0, 1) := by decide +kernel
theorem dX11_keepInch_18 : decode cX11_keepInch 18 = .ok (.getfield 35, 3) := by decide +kernel
theorem dX11_keepInch_21 : decode cX11_keepInch 21 = .ok (.iload_n 1, 1) := by decide +kernel
theorem dX11_keepInch_22 : decode cX11_keepInch 22 = .ok (.iload_n 2, 1) := by decide +kernel
theorem dX11_keepInch_23 : decode cX11_keepInch 23 = .ok (.invokevirtual 168, 3) := by decide +kernel
theorem dX11_keepInch_26 : decode cX11_keepInch 26 = .ok (.ifCond .ne 6, 3) := by decide +kernel
theorem dX11_keepInch_29 : decode cX11_keepInch 29 = .ok (.bipush (-2), 2) := by decide +kernel
theorem dX11_keepInch_31 : decode cX11_keepInch 31 = .ok (.ireturn, 1) := by decide +kernel
theorem dX11_keepInch_32 : decode cX11_keepInch 32 = .ok (.iload_n 2, 1) := by decide +kernel
theorem dX11_keepInch_33 : decode cX11_keepInch 33 = .ok (.aload_n 0, 1) := by decide +kernel
theorem dX11_keepInch_34 : decode cX11_keepInch 34 = .ok (.getfield 35, 3) := by decide +kernel
theorem dX11_keepInch_37 : decode cX11_keepInch 37 = .ok (.getfield 137, 3) := by decide +kernel
theorem dX11_keepInch_40 : decode cX11_keepInch 40 = .ok (.iload_n 1, 1) := by decide +kernel
theorem dX11_keepInch_41 : decode cX11_keepInch 41 = .ok (.iaload, 1) := by decide +kernel
theorem dX11_keepInch_42 : decode cX11_keepInch 42 = .ok (.isub, 1) := by decide +kernel
theorem dX11_keepInch_43 : decode cX11_keepInch 43 = .ok (.istore_n 3, 1) := by decide +kernel
theorem dX11_keepInch_44 : decode cX11_keepInch 44 = .ok (.aload_n 0, 1) := by decide +kernel
theorem dX11_keepInch_45 : decode cX11_keepInch 45 = .ok (.getfield 35, 3) := by decide +kernel
theorem dX11_keepInch_48 : decode cX11_keepInch 48 = .ok (.getfield 140, 3) := by decide +kernel
theorem dX11_keepInch_51 : decode cX11_keepInch 51 = .ok (.iload_n 1, 1) := by decide +kernel
theorem dX11_keepInch_52 : decode cX11_keepInch 52 = .ok (.iaload, 1) := by decide +kernel
theorem dX11_keepInch_53 : decode cX11_keepInch 53 = .ok (.aload_n 0, 1) := by decide +kernel
theorem dX11_keepInch_54 : decode cX11_keepInch 54 = .ok (.getfield 35, 3) := by decide +kernel
theorem dX11_keepInch_57 : decode cX11_keepInch 57 = .ok (.getfield 141, 3) := by decide +kernel
theorem dX11_keepInch_60 : decode cX11_keepInch 60 = .ok (.iload_n 1, 1) := by decide +kernel
theorem dX11_keepInch_61 : decode cX11_keepInch 61 = .ok (.iaload, 1) := by decide +kernel
theorem dX11_keepInch_62 : decode cX11_keepInch 62 = .ok (.isub, 1) := by decide +kernel
theorem dX11_keepInch_63 : decode cX11_keepInch 63 = .ok (.iconst 1, 1) := by decide +kernel
theorem dX11_keepInch_64 : decode cX11_keepInch 64 = .ok (.isub, 1) := by decide +kernel
theorem dX11_keepInch_65 : decode cX11_keepInch 65 = .ok (.iload_n 2, 1) := by decide +kernel
theorem dX11_keepInch_66 : decode cX11_keepInch 66 = .ok (.isub, 1) := by decide +kernel
theorem dX11_keepInch_67 : decode cX11_keepInch 67 = .ok (.istore 4, 2) := by decide +kernel
theorem dX11_keepInch_69 : decode cX11_keepInch 69 = .ok (.iload_n 3, 1) := by decide +kernel
theorem dX11_keepInch_70 : decode cX11_keepInch 70 = .ok (.iload 4, 2) := by decide +kernel
theorem dX11_keepInch_72 : decode cX11_keepInch 72 = .ok (.invokestatic 310, 3) := by decide +kernel
theorem dX11_keepInch_75 : decode cX11_keepInch 75 = .ok (.ireturn, 1) := by decide +kernel
theorem dX11_times_0 : decode cX11_times 0 = .ok (.aload_n 0, 1) := by decide +kernel
theorem dX11_times_1 : decode cX11_times 1 = .ok (.iload_n 1, 1) := by decide +kernel
theorem dX11_times_2 : decode cX11_times 2 = .ok (.iload_n 2, 1) := by decide +kernel
theorem dX11_times_3 : decode cX11_times 3 = .ok (.invokevirtual 286, 3) := by decide +kernel
theorem dX11_times_6 : decode cX11_times 6 = .ok (.ifCond .ne 7, 3) := by decide +kernel
theorem dX11_times_9 : decode cX11_times 9 = .ok (.ldc2_w 301, 3) := by decide +kernel
theorem dX11_times_12 : decode cX11_times 12 = .ok (.lreturn, 1) := by decide +kernel
theorem dX11_times_13 : decode cX11_times 13 = .ok (.aload_n 0, 1) := by decide +kernel
theorem dX11_times_14 : decode cX11_times 14 = .ok (.getfield 69, 3) := by decide +kernel
theorem dX11_times_17 : decode cX11_times 17 = .ok (.aload_n 0, 1) := by decide +kernel
theorem dX11_times_18 : decode cX11_times 18 = .ok (.getfield 35, 3) := by decide +kernel
theorem dX11_times_21 : decode cX11_times 21 = .ok (.iload_n 1, 1) := by decide +kernel
theorem dX11_times_22 : decode cX11_times 22 = .ok (.invokevirtual 131, 3) := by decide +kernel
theorem dX11_times_25 : decode cX11_times 25 = .ok (.aload_n 0, 1) := by decide +kernel
theorem dX11_times_26 : decode cX11_times 26 = .ok (.getfield 35, 3) := by decide +kernel
theorem dX11_times_29 : decode cX11_times 29 = .ok (.iload_n 2, 1) := by decide +kernel
theorem dX11_times_30 : decode cX11_times 30 = .ok (.invokevirtual 131, 3) := by decide +kernel
theorem dX11_times_33 : decode cX11_times 33 = .ok (.invokevirtual 315, 3) := by decide +kernel
theorem dX11_times_36 : decode cX11_times 36 = .ok (.lconst 0, 1) := by decide +kernel
theorem dX11_times_37 : decode cX11_times 37 = .ok (.lstore_n 3, 1) := by decide +kernel
theorem dX11_times_38 : decode cX11_times 38 = .ok (.iconst 1, 1) := by decide +kernel
theorem dX11_times_39 : decode cX11_times 39 = .ok (.istore 5, 2) := by decide +kernel
theorem dX11_times_41 : decode cX11_times 41 = .ok (.iload 5, 2) := by decide +kernel
theorem dX11_times_43 : decode cX11_times 43 = .ok (.aload_n 0, 1) := by decide +kernel
theorem dX11_times_44 : decode cX11_times 44 = .ok (.getfield 69, 3) := by decide +kernel
theorem dX11_times_47 : decode cX11_times 47 = .ok (.getfield 319, 3) := by decide +kernel
theorem dX11_times_50 : decode cX11_times 50 = .ok (.arraylength, 1) := by decide +kernel
theorem dX11_times_51 : decode cX11_times 51 = .ok (.if_icmp .ge 29, 3) := by decide +kernel
theorem dX11_times_54 : decode cX11_times 54 = .ok (.aload_n 0, 1) := by decide +kernel
theorem dX11_times_55 : decode cX11_times 55 = .ok (.getfield 69, 3) := by decide +kernel
theorem dX11_times_58 : decode cX11_times 58 = .ok (.getfield 319, 3) := by decide +kernel
theorem dX11_times_61 : decode cX11_times 61 = .ok (.iload 5, 2) := by decide +kernel
theorem dX11_times_63 : decode cX11_times 63 = .ok (.iaload, 1) := by decide +kernel
theorem dX11_times_64 : decode cX11_times 64 = .ok (.ifCond .le 10, 3) := by decide +kernel
theorem dX11_times_67 : decode cX11_times 67 = .ok (.lload_n 3, 1) := by decide +kernel
theorem dX11_times_68 : decode cX11_times 68 = .ok (.lconst 1, 1) := by decide +kernel
theorem dX11_times_69 : decode cX11_times 69 = .ok (.iload 5, 2) := by decide +kernel
theorem dX11_times_71 : decode cX11_times 71 = .ok (.lshl, 1) := by decide +kernel
theorem dX11_times_72 : decode cX11_times 72 = .ok (.lor, 1) := by decide +kernel
theorem dX11_times_73 : decode cX11_times 73 = .ok (.lstore_n 3, 1) := by decide +kernel
theorem dX11_times_74 : decode cX11_times 74 = .ok (.iinc 5 1, 3) := by decide +kernel
theorem dX11_times_77 : decode cX11_times 77 = .ok (.goto (-36), 3) := by decide +kernel
theorem dX11_times_80 : decode cX11_times 80 = .ok (.lload_n 3, 1) := by decide +kernel
theorem dX11_times_81 : decode cX11_times 81 = .ok (.lreturn, 1) := by decide +kernel
theorem dX11_lightings_0 : decode cX11_lightings 0 = .ok (.aload_n 0, 1) := by decide +kernel
theorem dX11_lightings_1 : decode cX11_lightings 1 = .ok (.iload_n 1, 1) := by decide +kernel
theorem dX11_lightings_2 : decode cX11_lightings 2 = .ok (.iload_n 2, 1) := by decide +kernel
theorem dX11_lightings_3 : decode cX11_lightings 3 = .ok (.invokevirtual 286, 3) := by decide +kernel
theorem dX11_lightings_6 : decode cX11_lightings 6 = .ok (.ifCond .eq 14, 3) := by decide +kernel
theorem dX11_lightings_9 : decode cX11_lightings 9 = .ok (.iload_n 3, 1) := by decide +kernel
theorem dX11_lightings_10 : decode cX11_lightings 10 = .ok (.iconst 1, 1) := by decide +kernel
theorem dX11_lightings_11 : decode cX11_lightings 11 = .ok (.if_icmp .lt 9, 3) := by decide +kernel
theorem dX11_lightings_14 : decode cX11_lightings 14 = .ok (.iload_n 3, 1) := by decide +kernel
theorem dX11_lightings_15 : decode cX11_lightings 15 = .ok (.bipush 60, 2) := by decide +kernel
theorem dX11_lightings_17 : decode cX11_lightings 17 = .ok (.if_icmp .le 5, 3) := by decide +kernel
theorem dX11_lightings_20 : decode cX11_lightings 20 = .ok (.iconst (-1), 1) := by decide +kernel
theorem dX11_lightings_21 : decode cX11_lightings 21 = .ok (.ireturn, 1) := by decide +kernel
theorem dX11_lightings_22 : decode cX11_lightings 22 = .ok (.aload_n 0, 1) := by decide +kernel
theorem dX11_lightings_23 : decode cX11_lightings 23 = .ok (.getfield 69, 3) := by decide +kernel
theorem dX11_lightings_26 : decode cX11_lightings 26 = .ok (.aload_n 0, 1) := by decide +kernel
theorem dX11_lightings_27 : decode cX11_lightings 27 = .ok (.getfield 35, 3) := by decide +kernel
theorem dX11_lightings_30 : decode cX11_lightings 30 = .ok (.iload_n 1, 1) := by decide +kernel
theorem dX11_lightings_31 : decode cX11_lightings 31 = .ok (.invokevirtual 131, 3) := by decide +kernel
theorem dX11_lightings_34 : decode cX11_lightings 34 = .ok (.aload_n 0, 1) := by decide +kernel
theorem dX11_lightings_35 : decode cX11_lightings 35 = .ok (.getfield 35, 3) := by decide +kernel
theorem dX11_lightings_38 : decode cX11_lightings 38 = .ok (.iload_n 2, 1) := by decide +kernel
theorem dX11_lightings_39 : decode cX11_lightings 39 = .ok (.invokevirtual 131, 3) := by decide +kernel
theorem dX11_lightings_42 : decode cX11_lightings 42 = .ok (.invokevirtual 315, 3) := by decide +kernel
theorem dX11_lightings_45 : decode cX11_lightings 45 = .ok (.aload_n 0, 1) := by decide +kernel
theorem dX11_lightings_46 : decode cX11_lightings 46 = .ok (.getfield 69, 3) := by decide +kernel
theorem dX11_lightings_49 : decode cX11_lightings 49 = .ok (.getfield 319, 3) := by decide +kernel
theorem dX11_lightings_52 : decode cX11_lightings 52 = .ok (.iload_n 3, 1) := by decide +kernel
theorem dX11_lightings_53 : decode cX11_lightings 53 = .ok (.iaload, 1) := by decide +kernel
theorem dX11_lightings_54 : decode cX11_lightings 54 = .ok (.ifCond .le 15, 3) := by decide +kernel
theorem dX11_lightings_57 : decode cX11_lightings 57 = .ok (.aload_n 0, 1) := by decide +kernel
theorem dX11_lightings_58 : decode cX11_lightings 58 = .ok (.getfield 69, 3) := by decide +kernel
theorem dX11_lightings_61 : decode cX11_lightings 61 = .ok (.getfield 319, 3) := by decide +kernel
theorem dX11_lightings_64 : decode cX11_lightings 64 = .ok (.iload_n 3, 1) := by decide +kernel
theorem dX11_lightings_65 : decode cX11_lightings 65 = .ok (.iaload, 1) := by decide +kernel
theorem dX11_lightings_66 : decode cX11_lightings 66 = .ok (.goto 5, 3) := by decide +kernel
theorem dX11_lightings_69 : decode cX11_lightings 69 = .ok (.bipush (-2), 2) := by decide +kernel
theorem dX11_lightings_71 : decode cX11_lightings 71 = .ok (.ireturn, 1) := by decide +kernel
theorem dX11_game_0 : decode cX11_game 0 = .ok (.aload_n 0, 1) := by decide +kernel
theorem dX11_game_1 : decode cX11_game 1 = .ok (.iload_n 1, 1) := by decide +kernel
theorem dX11_game_2 : decode cX11_game 2 = .ok (.invokevirtual 120, 3) := by decide +kernel
theorem dX11_game_5 : decode cX11_game 5 = .ok (.ifCond .eq 12, 3) := by decide +kernel
theorem dX11_game_8 : decode cX11_game 8 = .ok (.iload_n 2, 1) := by decide +kernel
theorem dX11_game_9 : decode cX11_game 9 = .ok (.ifCond .eq 12, 3) := by decide +kernel
theorem dX11_game_12 : decode cX11_game 12 = .ok (.iload_n 2, 1) := by decide +kernel
theorem dX11_game_13 : decode cX11_game 13 = .ok (.iconst 1, 1) := by decide +kernel
theorem dX11_game_14 : decode cX11_game 14 = .ok (.if_icmp .eq 7, 3) := by decide +kernel
theorem dX11_game_17 : decode cX11_game 17 = .ok (.ldc_w 324, 3) := by decide +kernel
theorem dX11_game_20 : decode cX11_game 20 = .ok (.ireturn, 1) := by decide +kernel
theorem dX11_game_21 : decode cX11_game 21 = .ok (.aload_n 0, 1) := by decide +kernel
theorem dX11_game_22 : decode cX11_game 22 = .ok (.getfield 76, 3) := by decide +kernel
theorem dX11_game_25 : decode cX11_game 25 = .ok (.aload_n 0, 1) := by decide +kernel
theorem dX11_game_26 : decode cX11_game 26 = .ok (.getfield 35, 3) := by decide +kernel
theorem dX11_game_29 : decode cX11_game 29 = .ok (.getfield 325, 3) := by decide +kernel
theorem dX11_game_32 : decode cX11_game 32 = .ok (.iload_n 1, 1) := by decide +kernel
theorem dX11_game_33 : decode cX11_game 33 = .ok (.laload, 1) := by decide +kernel
theorem dX11_game_34 : decode cX11_game 34 = .ok (.aload_n 0, 1) := by decide +kernel
theorem dX11_game_35 : decode cX11_game 35 = .ok (.getfield 35, 3) := by decide +kernel
theorem dX11_game_38 : decode cX11_game 38 = .ok (.getfield 137, 3) := by decide +kernel
theorem dX11_game_41 : decode cX11_game 41 = .ok (.iload_n 1, 1) := by decide +kernel
theorem dX11_game_42 : decode cX11_game 42 = .ok (.iaload, 1) := by decide +kernel
theorem dX11_game_43 : decode cX11_game 43 = .ok (.aload_n 0, 1) := by decide +kernel
theorem dX11_game_44 : decode cX11_game 44 = .ok (.getfield 35, 3) := by decide +kernel
theorem dX11_game_47 : decode cX11_game 47 = .ok (.iload_n 1, 1) := by decide +kernel
theorem dX11_game_48 : decode cX11_game 48 = .ok (.invokevirtual 131, 3) := by decide +kernel
theorem dX11_game_51 : decode cX11_game 51 = .ok (.invokevirtual 329, 3) := by decide +kernel
theorem dX11_game_54 : decode cX11_game 54 = .ok (.iload_n 2, 1) := by decide +kernel
theorem dX11_game_55 : decode cX11_game 55 = .ok (.ifCond .ne 13, 3) := by decide +kernel
theorem dX11_game_58 : decode cX11_game 58 = .ok (.aload_n 0, 1) := by decide +kernel
theorem dX11_game_59 : decode cX11_game 59 = .ok (.getfield 76, 3) := by decide +kernel
theorem dX11_game_62 : decode cX11_game 62 = .ok (.getfield 333, 3) := by decide +kernel
theorem dX11_game_65 : decode cX11_game 65 = .ok (.goto 10, 3) := by decide +kernel
theorem dX11_game_68 : decode cX11_game 68 = .ok (.aload_n 0, 1) := by decide +kernel
theorem dX11_game_69 : decode cX11_game 69 = .ok (.getfield 76, 3) := by decide +kernel
theorem dX11_game_72 : decode cX11_game 72 = .ok (.getfield 336, 3) := by decide +kernel
theorem dX11_game_75 : decode cX11_game 75 = .ok (.ireturn, 1) := by decide +kernel
theorem dX11_rests_0 : decode cX11_rests 0 = .ok (.aload_n 0, 1) := by decide +kernel
theorem dX11_rests_1 : decode cX11_rests 1 = .ok (.iload_n 1, 1) := by decide +kernel
theorem dX11_rests_2 : decode cX11_rests 2 = .ok (.iload_n 2, 1) := by decide +kernel
theorem dX11_rests_3 : decode cX11_rests 3 = .ok (.invokevirtual 286, 3) := by decide +kernel
theorem dX11_rests_6 : decode cX11_rests 6 = .ok (.ifCond .ne 5, 3) := by decide +kernel
theorem dX11_rests_9 : decode cX11_rests 9 = .ok (.iconst (-1), 1) := by decide +kernel
theorem dX11_rests_10 : decode cX11_rests 10 = .ok (.ireturn, 1) := by decide +kernel
theorem dX11_rests_11 : decode cX11_rests 11 = .ok (.iconst 0, 1) := by decide +kernel
theorem dX11_rests_12 : decode cX11_rests 12 = .ok (.istore_n 3, 1) := by decide +kernel
theorem dX11_rests_13 : decode cX11_rests 13 = .ok (.iconst 0, 1) := by decide +kernel
theorem dX11_rests_14 : decode cX11_rests 14 = .ok (.istore 4, 2) := by decide +kernel
theorem dX11_rests_16 : decode cX11_rests 16 = .ok (.iload 4, 2) := by decide +kernel
theorem dX11_rests_18 : decode cX11_rests 18 = .ok (.iconst 4, 1) := by decide +kernel
theorem dX11_rests_19 : decode cX11_rests 19 = .ok (.if_icmp .ge 23, 3) := by decide +kernel
theorem dX11_rests_22 : decode cX11_rests 22 = .ok (.aload_n 0, 1) := by decide +kernel
theorem dX11_rests_23 : decode cX11_rests 23 = .ok (.iload_n 1, 1) := by decide +kernel
theorem dX11_rests_24 : decode cX11_rests 24 = .ok (.iload_n 2, 1) := by decide +kernel
theorem dX11_rests_25 : decode cX11_rests 25 = .ok (.iload 4, 2) := by decide +kernel
theorem dX11_rests_27 : decode cX11_rests 27 = .ok (.invokevirtual 339, 3) := by decide +kernel
theorem dX11_rests_30 : decode cX11_rests 30 = .ok (.ifCond .eq 6, 3) := by decide +kernel
theorem dX11_rests_33 : decode cX11_rests 33 = .ok (.iinc 3 1, 3) := by decide +kernel
theorem dX11_rests_36 : decode cX11_rests 36 = .ok (.iinc 4 1, 3) := by decide +kernel
theorem dX11_rests_39 : decode cX11_rests 39 = .ok (.goto (-23), 3) := by decide +kernel
theorem dX11_rests_42 : decode cX11_rests 42 = .ok (.iload_n 3, 1) := by decide +kernel
theorem dX11_rests_43 : decode cX11_rests 43 = .ok (.ireturn, 1) := by decide +kernel
theorem dX11_rest_0 : decode cX11_rest 0 = .ok (.aload_n 0, 1) := by decide +kernel
theorem dX11_rest_1 : decode cX11_rest 1 = .ok (.iload_n 1, 1) := by decide +kernel
theorem dX11_rest_2 : decode cX11_rest 2 = .ok (.iload_n 2, 1) := by decide +kernel
theorem dX11_rest_3 : decode cX11_rest 3 = .ok (.invokevirtual 286, 3) := by decide +kernel
theorem dX11_rest_6 : decode cX11_rest 6 = .ok (.ifCond .eq 7, 3) := by decide +kernel
theorem dX11_rest_9 : decode cX11_rest 9 = .ok (.iload_n 3, 1) := by decide +kernel
theorem dX11_rest_10 : decode cX11_rest 10 = .ok (.ifCond .ge 5, 3) := by decide +kernel
theorem dX11_rest_13 : decode cX11_rest 13 = .ok (.iconst (-1), 1) := by decide +kernel
theorem dX11_rest_14 : decode cX11_rest 14 = .ok (.ireturn, 1) := by decide +kernel
theorem dX11_rest_15 : decode cX11_rest 15 = .ok (.iconst 0, 1) := by decide +kernel
theorem dX11_rest_16 : decode cX11_rest 16 = .ok (.istore 4, 2) := by decide +kernel
theorem dX11_rest_18 : decode cX11_rest 18 = .ok (.iconst 0, 1) := by decide +kernel
theorem dX11_rest_19 : decode cX11_rest 19 = .ok (.istore 5, 2) := by decide +kernel
theorem dX11_rest_21 : decode cX11_rest 21 = .ok (.iload 5, 2) := by decide +kernel
theorem dX11_rest_23 : decode cX11_rest 23 = .ok (.iconst 4, 1) := by decide +kernel
theorem dX11_rest_24 : decode cX11_rest 24 = .ok (.if_icmp .ge 42, 3) := by decide +kernel
theorem dX11_rest_27 : decode cX11_rest 27 = .ok (.aload_n 0, 1) := by decide +kernel
theorem dX11_rest_28 : decode cX11_rest 28 = .ok (.iload_n 1, 1) := by decide +kernel
theorem dX11_rest_29 : decode cX11_rest 29 = .ok (.iload_n 2, 1) := by decide +kernel
theorem dX11_rest_30 : decode cX11_rest 30 = .ok (.iload 5, 2) := by decide +kernel
theorem dX11_rest_32 : decode cX11_rest 32 = .ok (.invokevirtual 339, 3) := by decide +kernel
theorem dX11_rest_35 : decode cX11_rest 35 = .ok (.ifCond .eq 25, 3) := by decide +kernel
theorem dX11_rest_38 : decode cX11_rest 38 = .ok (.iload 4, 2) := by decide +kernel
theorem dX11_rest_40 : decode cX11_rest 40 = .ok (.iload_n 3, 1) := by decide +kernel
theorem dX11_rest_41 : decode cX11_rest 41 = .ok (.if_icmp .ne 16, 3) := by decide +kernel
theorem dX11_rest_44 : decode cX11_rest 44 = .ok (.bipush 10, 2) := by decide +kernel
theorem dX11_rest_46 : decode cX11_rest 46 = .ok (.iload 5, 2) := by decide +kernel
theorem dX11_rest_48 : decode cX11_rest 48 = .ok (.iconst 1, 1) := by decide +kernel
theorem dX11_rest_49 : decode cX11_rest 49 = .ok (.ishr, 1) := by decide +kernel
theorem dX11_rest_50 : decode cX11_rest 50 = .ok (.imul, 1) := by decide +kernel
theorem dX11_rest_51 : decode cX11_rest 51 = .ok (.iload 5, 2) := by decide +kernel
theorem dX11_rest_53 : decode cX11_rest 53 = .ok (.iconst 1, 1) := by decide +kernel
theorem dX11_rest_54 : decode cX11_rest 54 = .ok (.iand, 1) := by decide +kernel
theorem dX11_rest_55 : decode cX11_rest 55 = .ok (.iadd, 1) := by decide +kernel
theorem dX11_rest_56 : decode cX11_rest 56 = .ok (.ireturn, 1) := by decide +kernel
theorem dX11_rest_57 : decode cX11_rest 57 = .ok (.iinc 4 1, 3) := by decide +kernel
theorem dX11_rest_60 : decode cX11_rest 60 = .ok (.iinc 5 1, 3) := by decide +kernel
theorem dX11_rest_63 : decode cX11_rest 63 = .ok (.goto (-42), 3) := by decide +kernel
theorem dX11_rest_66 : decode cX11_rest 66 = .ok (.bipush (-2), 2) := by decide +kernel
theorem dX11_rest_68 : decode cX11_rest 68 = .ok (.ireturn, 1) := by decide +kernel
theorem dX11_isRest_0 : decode cX11_isRest 0 = .ok (.aload_n 0, 1) := by decide +kernel
theorem dX11_isRest_1 : decode cX11_isRest 1 = .ok (.getfield 35, 3) := by decide +kernel
theorem dX11_isRest_4 : decode cX11_isRest 4 = .ok (.iload_n 1, 1) := by decide +kernel
theorem dX11_isRest_5 : decode cX11_isRest 5 = .ok (.invokevirtual 147, 3) := by decide +kernel
theorem dX11_isRest_8 : decode cX11_isRest 8 = .ok (.istore 4, 2) := by decide +kernel
theorem dX11_isRest_10 : decode cX11_isRest 10 = .ok (.aload_n 0, 1) := by decide +kernel
theorem dX11_isRest_11 : decode cX11_isRest 11 = .ok (.getfield 35, 3) := by decide +kernel
theorem dX11_isRest_14 : decode cX11_isRest 14 = .ok (.iload_n 2, 1) := by decide +kernel
theorem dX11_isRest_15 : decode cX11_isRest 15 = .ok (.invokevirtual 147, 3) := by decide +kernel
theorem dX11_isRest_18 : decode cX11_isRest 18 = .ok (.istore 5, 2) := by decide +kernel
theorem dX11_isRest_20 : decode cX11_isRest 20 = .ok (.iload_n 3, 1) := by decide +kernel
theorem dX11_isRest_21 : decode cX11_isRest 21 = .ok (.iconst 1, 1) := by decide +kernel
theorem dX11_isRest_22 : decode cX11_isRest 22 = .ok (.ishr, 1) := by decide +kernel
theorem dX11_isRest_23 : decode cX11_isRest 23 = .ok (.istore 6, 2) := by decide +kernel
theorem dX11_isRest_25 : decode cX11_isRest 25 = .ok (.iload_n 3, 1) := by decide +kernel
theorem dX11_isRest_26 : decode cX11_isRest 26 = .ok (.iconst 1, 1) := by decide +kernel
theorem dX11_isRest_27 : decode cX11_isRest 27 = .ok (.iand, 1) := by decide +kernel
theorem dX11_isRest_28 : decode cX11_isRest 28 = .ok (.istore 7, 2) := by decide +kernel
theorem dX11_isRest_30 : decode cX11_isRest 30 = .ok (.iload 4, 2) := by decide +kernel
theorem dX11_isRest_32 : decode cX11_isRest 32 = .ok (.iload 5, 2) := by decide +kernel
theorem dX11_isRest_34 : decode cX11_isRest 34 = .ok (.iconst 1, 1) := by decide +kernel
theorem dX11_isRest_35 : decode cX11_isRest 35 = .ok (.iload 6, 2) := by decide +kernel
theorem dX11_isRest_37 : decode cX11_isRest 37 = .ok (.isub, 1) := by decide +kernel
theorem dX11_isRest_38 : decode cX11_isRest 38 = .ok (.iload 7, 2) := by decide +kernel
theorem dX11_isRest_40 : decode cX11_isRest 40 = .ok (.invokestatic 343, 3) := by decide +kernel
theorem dX11_isRest_43 : decode cX11_isRest 43 = .ok (.iload 4, 2) := by decide +kernel
theorem dX11_isRest_45 : decode cX11_isRest 45 = .ok (.iload 5, 2) := by decide +kernel
theorem dX11_isRest_47 : decode cX11_isRest 47 = .ok (.iload 6, 2) := by decide +kernel
theorem dX11_isRest_49 : decode cX11_isRest 49 = .ok (.iload 7, 2) := by decide +kernel
theorem dX11_isRest_51 : decode cX11_isRest 51 = .ok (.invokestatic 343, 3) := by decide +kernel
theorem dX11_isRest_54 : decode cX11_isRest 54 = .ok (.if_icmp .gt 34, 3) := by decide +kernel
theorem dX11_isRest_57 : decode cX11_isRest 57 = .ok (.iload 5, 2) := by decide +kernel
theorem dX11_isRest_59 : decode cX11_isRest 59 = .ok (.iload 4, 2) := by decide +kernel
theorem dX11_isRest_61 : decode cX11_isRest 61 = .ok (.iconst 1, 1) := by decide +kernel
theorem dX11_isRest_62 : decode cX11_isRest 62 = .ok (.iload 7, 2) := by decide +kernel
theorem dX11_isRest_64 : decode cX11_isRest 64 = .ok (.isub, 1) := by decide +kernel
theorem dX11_isRest_65 : decode cX11_isRest 65 = .ok (.iload 6, 2) := by decide +kernel
theorem dX11_isRest_67 : decode cX11_isRest 67 = .ok (.invokestatic 343, 3) := by decide +kernel
theorem dX11_isRest_70 : decode cX11_isRest 70 = .ok (.iload 5, 2) := by decide +kernel
theorem dX11_isRest_72 : decode cX11_isRest 72 = .ok (.iload 4, 2) := by decide +kernel
theorem dX11_isRest_74 : decode cX11_isRest 74 = .ok (.iload 7, 2) := by decide +kernel
theorem dX11_isRest_76 : decode cX11_isRest 76 = .ok (.iload 6, 2) := by decide +kernel
theorem dX11_isRest_78 : decode cX11_isRest 78 = .ok (.invokestatic 343, 3) := by decide +kernel
theorem dX11_isRest_81 : decode cX11_isRest 81 = .ok (.if_icmp .gt 7, 3) := by decide +kernel
theorem dX11_isRest_84 : decode cX11_isRest 84 = .ok (.iconst 1, 1) := by decide +kernel
theorem dX11_isRest_85 : decode cX11_isRest 85 = .ok (.goto 4, 3) := by decide +kernel
theorem dX11_isRest_88 : decode cX11_isRest 88 = .ok (.iconst 0, 1) := by decide +kernel
theorem dX11_isRest_89 : decode cX11_isRest 89 = .ok (.ireturn, 1) := by decide +kernel
theorem dX11_spent_0 : decode cX11_spent 0 = .ok (.iload_n 2, 1) := by decide +kernel
theorem dX11_spent_1 : decode cX11_spent 1 = .ok (.ifCond .ne 17, 3) := by decide +kernel
theorem dX11_spent_4 : decode cX11_spent 4 = .ok (.iload_n 3, 1) := by decide +kernel
theorem dX11_spent_5 : decode cX11_spent 5 = .ok (.ifCond .ne 9, 3) := by decide +kernel
theorem dX11_spent_8 : decode cX11_spent 8 = .ok (.iload_n 0, 1) := by decide +kernel
theorem dX11_spent_9 : decode cX11_spent 9 = .ok (.iconst 2, 1) := by decide +kernel
theorem dX11_spent_10 : decode cX11_spent 10 = .ok (.idiv, 1) := by decide +kernel
theorem dX11_spent_11 : decode cX11_spent 11 = .ok (.goto 6, 3) := by decide +kernel
theorem dX11_spent_14 : decode cX11_spent 14 = .ok (.iload_n 0, 1) := by decide +kernel
theorem dX11_spent_15 : decode cX11_spent 15 = .ok (.iconst 2, 1) := by decide +kernel
theorem dX11_spent_16 : decode cX11_spent 16 = .ok (.iadd, 1) := by decide +kernel
theorem dX11_spent_17 : decode cX11_spent 17 = .ok (.ireturn, 1) := by decide +kernel
theorem dX11_spent_18 : decode cX11_spent 18 = .ok (.iload_n 3, 1) := by decide +kernel
theorem dX11_spent_19 : decode cX11_spent 19 = .ok (.ifCond .ne 9, 3) := by decide +kernel
theorem dX11_spent_22 : decode cX11_spent 22 = .ok (.iload_n 0, 1) := by decide +kernel
theorem dX11_spent_23 : decode cX11_spent 23 = .ok (.iload_n 1, 1) := by decide +kernel
theorem dX11_spent_24 : decode cX11_spent 24 = .ok (.iadd, 1) := by decide +kernel
theorem dX11_spent_25 : decode cX11_spent 25 = .ok (.goto 4, 3) := by decide +kernel
theorem dX11_spent_28 : decode cX11_spent 28 = .ok (.iload_n 0, 1) := by decide +kernel
theorem dX11_spent_29 : decode cX11_spent 29 = .ok (.ireturn, 1) := by decide +kernel
theorem dX11_cover_0 : decode cX11_cover 0 = .ok (.bipush (-2), 2) := by decide +kernel
theorem dX11_cover_2 : decode cX11_cover 2 = .ok (.istore_n 1, 1) := by decide +kernel
theorem dX11_cover_3 : decode cX11_cover 3 = .ok (.iconst 0, 1) := by decide +kernel
theorem dX11_cover_4 : decode cX11_cover 4 = .ok (.istore_n 2, 1) := by decide +kernel
theorem dX11_cover_5 : decode cX11_cover 5 = .ok (.iload_n 2, 1) := by decide +kernel
theorem dX11_cover_6 : decode cX11_cover 6 = .ok (.iconst 1, 1) := by decide +kernel
theorem dX11_cover_7 : decode cX11_cover 7 = .ok (.aload_n 0, 1) := by decide +kernel
theorem dX11_cover_8 : decode cX11_cover 8 = .ok (.getfield 25, 3) := by decide +kernel
theorem dX11_cover_11 : decode cX11_cover 11 = .ok (.getfield 194, 3) := by decide +kernel
theorem dX11_cover_14 : decode cX11_cover 14 = .ok (.ishl, 1) := by decide +kernel
theorem dX11_cover_15 : decode cX11_cover 15 = .ok (.if_icmp .ge 39, 3) := by decide +kernel
theorem dX11_cover_18 : decode cX11_cover 18 = .ok (.iload_n 2, 1) := by decide +kernel
theorem dX11_cover_19 : decode cX11_cover 19 = .ok (.iload_n 1, 1) := by decide +kernel
theorem dX11_cover_20 : decode cX11_cover 20 = .ok (.invokestatic 347, 3) := by decide +kernel
theorem dX11_cover_23 : decode cX11_cover 23 = .ok (.ifCond .eq 25, 3) := by decide +kernel
theorem dX11_cover_26 : decode cX11_cover 26 = .ok (.iload_n 2, 1) := by decide +kernel
theorem dX11_cover_27 : decode cX11_cover 27 = .ok (.aload_n 0, 1) := by decide +kernel
theorem dX11_cover_28 : decode cX11_cover 28 = .ok (.getfield 35, 3) := by decide +kernel
theorem dX11_cover_31 : decode cX11_cover 31 = .ok (.invokevirtual 350, 3) := by decide +kernel
theorem dX11_cover_34 : decode cX11_cover 34 = .ok (.iand, 1) := by decide +kernel
theorem dX11_cover_35 : decode cX11_cover 35 = .ok (.ifCond .ne 13, 3) := by decide +kernel
theorem dX11_cover_38 : decode cX11_cover 38 = .ok (.aload_n 0, 1) := by decide +kernel
theorem dX11_cover_39 : decode cX11_cover 39 = .ok (.iload_n 2, 1) := by decide +kernel
theorem dX11_cover_40 : decode cX11_cover 40 = .ok (.invokevirtual 353, 3) := by decide +kernel
theorem dX11_cover_43 : decode cX11_cover 43 = .ok (.ifCond .eq 5, 3) := by decide +kernel
theorem dX11_cover_46 : decode cX11_cover 46 = .ok (.iload_n 2, 1) := by decide +kernel
theorem dX11_cover_47 : decode cX11_cover 47 = .ok (.istore_n 1, 1) := by decide +kernel
theorem dX11_cover_48 : decode cX11_cover 48 = .ok (.iinc 2 1, 3) := by decide +kernel
theorem dX11_cover_51 : decode cX11_cover 51 = .ok (.goto (-46), 3) := by decide +kernel
theorem dX11_cover_54 : decode cX11_cover 54 = .ok (.iload_n 1, 1) := by decide +kernel
theorem dX11_cover_55 : decode cX11_cover 55 = .ok (.ireturn, 1) := by decide +kernel
theorem dX11_isFewer_0 : decode cX11_isFewer 0 = .ok (.iload_n 1, 1) := by decide +kernel
theorem dX11_isFewer_1 : decode cX11_isFewer 1 = .ok (.ifCond .lt 14, 3) := by decide +kernel
theorem dX11_isFewer_4 : decode cX11_isFewer 4 = .ok (.iload_n 0, 1) := by decide +kernel
theorem dX11_isFewer_5 : decode cX11_isFewer 5 = .ok (.invokestatic 356, 3) := by decide +kernel
theorem dX11_isFewer_8 : decode cX11_isFewer 8 = .ok (.iload_n 1, 1) := by decide +kernel
theorem dX11_isFewer_9 : decode cX11_isFewer 9 = .ok (.invokestatic 356, 3) := by decide +kernel
theorem dX11_isFewer_12 : decode cX11_isFewer 12 = .ok (.if_icmp .ge 7, 3) := by decide +kernel
theorem dX11_isFewer_15 : decode cX11_isFewer 15 = .ok (.iconst 1, 1) := by decide +kernel
theorem dX11_isFewer_16 : decode cX11_isFewer 16 = .ok (.goto 4, 3) := by decide +kernel
theorem dX11_isFewer_19 : decode cX11_isFewer 19 = .ok (.iconst 0, 1) := by decide +kernel
theorem dX11_isFewer_20 : decode cX11_isFewer 20 = .ok (.ireturn, 1) := by decide +kernel
theorem dX11_allSeeBy_0 : decode cX11_allSeeBy 0 = .ok (.iconst 0, 1) := by decide +kernel
theorem dX11_allSeeBy_1 : decode cX11_allSeeBy 1 = .ok (.istore_n 2, 1) := by decide +kernel
theorem dX11_allSeeBy_2 : decode cX11_allSeeBy 2 = .ok (.iload_n 2, 1) := by decide +kernel
theorem dX11_allSeeBy_3 : decode cX11_allSeeBy 3 = .ok (.aload_n 0, 1) := by decide +kernel
theorem dX11_allSeeBy_4 : decode cX11_allSeeBy 4 = .ok (.getfield 25, 3) := by decide +kernel
theorem dX11_allSeeBy_7 : decode cX11_allSeeBy 7 = .ok (.getfield 194, 3) := by decide +kernel
theorem dX11_allSeeBy_10 : decode cX11_allSeeBy 10 = .ok (.if_icmp .ge 23, 3) := by decide +kernel
theorem dX11_allSeeBy_13 : decode cX11_allSeeBy 13 = .ok (.aload_n 0, 1) := by decide +kernel
theorem dX11_allSeeBy_14 : decode cX11_allSeeBy 14 = .ok (.getfield 25, 3) := by decide +kernel
theorem dX11_allSeeBy_17 : decode cX11_allSeeBy 17 = .ok (.iload_n 1, 1) := by decide +kernel
theorem dX11_allSeeBy_18 : decode cX11_allSeeBy 18 = .ok (.iload_n 2, 1) := by decide +kernel
theorem dX11_allSeeBy_19 : decode cX11_allSeeBy 19 = .ok (.invokevirtual 245, 3) := by decide +kernel
theorem dX11_allSeeBy_22 : decode cX11_allSeeBy 22 = .ok (.ifCond .ne 5, 3) := by decide +kernel
theorem dX11_allSeeBy_25 : decode cX11_allSeeBy 25 = .ok (.iconst 0, 1) := by decide +kernel
theorem dX11_allSeeBy_26 : decode cX11_allSeeBy 26 = .ok (.ireturn, 1) := by decide +kernel
theorem dX11_allSeeBy_27 : decode cX11_allSeeBy 27 = .ok (.iinc 2 1, 3) := by decide +kernel
theorem dX11_allSeeBy_30 : decode cX11_allSeeBy 30 = .ok (.goto (-28), 3) := by decide +kernel
theorem dX11_allSeeBy_33 : decode cX11_allSeeBy 33 = .ok (.iconst 1, 1) := by decide +kernel
theorem dX11_allSeeBy_34 : decode cX11_allSeeBy 34 = .ok (.ireturn, 1) := by decide +kernel
theorem dX11_last_0 : decode cX11_last 0 = .ok (.iload_n 1, 1) := by decide +kernel
theorem dX11_last_1 : decode cX11_last 1 = .ok (.ifCond .lt 10, 3) := by decide +kernel
theorem dX11_last_4 : decode cX11_last 4 = .ok (.iload_n 1, 1) := by decide +kernel
theorem dX11_last_5 : decode cX11_last 5 = .ok (.sipush 360, 3) := by decide +kernel
theorem dX11_last_8 : decode cX11_last 8 = .ok (.if_icmp .le 5, 3) := by decide +kernel
theorem dX11_last_11 : decode cX11_last 11 = .ok (.iconst (-1), 1) := by decide +kernel
theorem dX11_last_12 : decode cX11_last 12 = .ok (.ireturn, 1) := by decide +kernel
theorem dX11_last_13 : decode cX11_last 13 = .ok (.bipush (-2), 2) := by decide +kernel
theorem dX11_last_15 : decode cX11_last 15 = .ok (.istore_n 2, 1) := by decide +kernel
theorem dX11_last_16 : decode cX11_last 16 = .ok (.iconst 0, 1) := by decide +kernel
theorem dX11_last_17 : decode cX11_last 17 = .ok (.istore_n 3, 1) := by decide +kernel
theorem dX11_last_18 : decode cX11_last 18 = .ok (.iload_n 3, 1) := by decide +kernel
theorem dX11_last_19 : decode cX11_last 19 = .ok (.iconst 1, 1) := by decide +kernel
theorem dX11_last_20 : decode cX11_last 20 = .ok (.aload_n 0, 1) := by decide +kernel
theorem dX11_last_21 : decode cX11_last 21 = .ok (.getfield 25, 3) := by decide +kernel
theorem dX11_last_24 : decode cX11_last 24 = .ok (.getfield 194, 3) := by decide +kernel
theorem dX11_last_27 : decode cX11_last 27 = .ok (.ishl, 1) := by decide +kernel
theorem dX11_last_28 : decode cX11_last 28 = .ok (.if_icmp .ge 28, 3) := by decide +kernel
theorem dX11_last_31 : decode cX11_last 31 = .ok (.iload_n 3, 1) := by decide +kernel
theorem dX11_last_32 : decode cX11_last 32 = .ok (.iload_n 2, 1) := by decide +kernel
theorem dX11_last_33 : decode cX11_last 33 = .ok (.invokestatic 347, 3) := by decide +kernel
theorem dX11_last_36 : decode cX11_last 36 = .ok (.ifCond .eq 14, 3) := by decide +kernel
theorem dX11_last_39 : decode cX11_last 39 = .ok (.aload_n 0, 1) := by decide +kernel
theorem dX11_last_40 : decode cX11_last 40 = .ok (.iload_n 3, 1) := by decide +kernel
theorem dX11_last_41 : decode cX11_last 41 = .ok (.invokevirtual 359, 3) := by decide +kernel
theorem dX11_last_44 : decode cX11_last 44 = .ok (.iload_n 1, 1) := by decide +kernel
theorem dX11_last_45 : decode cX11_last 45 = .ok (.if_icmp .lt 5, 3) := by decide +kernel
theorem dX11_last_48 : decode cX11_last 48 = .ok (.iload_n 3, 1) := by decide +kernel
theorem dX11_last_49 : decode cX11_last 49 = .ok (.istore_n 2, 1) := by decide +kernel
theorem dX11_last_50 : decode cX11_last 50 = .ok (.iinc 3 1, 3) := by decide +kernel
theorem dX11_last_53 : decode cX11_last 53 = .ok (.goto (-35), 3) := by decide +kernel
theorem dX11_last_56 : decode cX11_last 56 = .ok (.iload_n 2, 1) := by decide +kernel
theorem dX11_last_57 : decode cX11_last 57 = .ok (.ireturn, 1) := by decide +kernel
theorem dX11_inchesOf_0 : decode cX11_inchesOf 0 = .ok (.iconst 0, 1) := by decide +kernel
theorem dX11_inchesOf_1 : decode cX11_inchesOf 1 = .ok (.istore_n 2, 1) := by decide +kernel
theorem dX11_inchesOf_2 : decode cX11_inchesOf 2 = .ok (.iconst 0, 1) := by decide +kernel
theorem dX11_inchesOf_3 : decode cX11_inchesOf 3 = .ok (.istore_n 3, 1) := by decide +kernel
theorem dX11_inchesOf_4 : decode cX11_inchesOf 4 = .ok (.iload_n 3, 1) := by decide +kernel
theorem dX11_inchesOf_5 : decode cX11_inchesOf 5 = .ok (.aload_n 0, 1) := by decide +kernel
theorem dX11_inchesOf_6 : decode cX11_inchesOf 6 = .ok (.getfield 25, 3) := by decide +kernel
theorem dX11_inchesOf_9 : decode cX11_inchesOf 9 = .ok (.getfield 194, 3) := by decide +kernel
theorem dX11_inchesOf_12 : decode cX11_inchesOf 12 = .ok (.if_icmp .ge 28, 3) := by decide +kernel
theorem dX11_inchesOf_15 : decode cX11_inchesOf 15 = .ok (.iload_n 1, 1) := by decide +kernel
theorem dX11_inchesOf_16 : decode cX11_inchesOf 16 = .ok (.iload_n 3, 1) := by decide +kernel
theorem dX11_inchesOf_17 : decode cX11_inchesOf 17 = .ok (.ishr, 1) := by decide +kernel
theorem dX11_inchesOf_18 : decode cX11_inchesOf 18 = .ok (.iconst 1, 1) := by decide +kernel
theorem dX11_inchesOf_19 : decode cX11_inchesOf 19 = .ok (.iand, 1) := by decide +kernel
theorem dX11_inchesOf_20 : decode cX11_inchesOf 20 = .ok (.ifCond .eq 14, 3) := by decide +kernel
theorem dX11_inchesOf_23 : decode cX11_inchesOf 23 = .ok (.iload_n 2, 1) := by decide +kernel
theorem dX11_inchesOf_24 : decode cX11_inchesOf 24 = .ok (.aload_n 0, 1) := by decide +kernel
theorem dX11_inchesOf_25 : decode cX11_inchesOf 25 = .ok (.getfield 35, 3) := by decide +kernel
theorem dX11_inchesOf_28 : decode cX11_inchesOf 28 = .ok (.iload_n 3, 1) := by decide +kernel
theorem dX11_inchesOf_29 : decode cX11_inchesOf 29 = .ok (.invokevirtual 131, 3) := by decide +kernel
theorem dX11_inchesOf_32 : decode cX11_inchesOf 32 = .ok (.iadd, 1) := by decide +kernel
theorem dX11_inchesOf_33 : decode cX11_inchesOf 33 = .ok (.istore_n 2, 1) := by decide +kernel
theorem dX11_inchesOf_34 : decode cX11_inchesOf 34 = .ok (.iinc 3 1, 3) := by decide +kernel
theorem dX11_inchesOf_37 : decode cX11_inchesOf 37 = .ok (.goto (-33), 3) := by decide +kernel
theorem dX11_inchesOf_40 : decode cX11_inchesOf 40 = .ok (.iload_n 2, 1) := by decide +kernel
theorem dX11_inchesOf_41 : decode cX11_inchesOf 41 = .ok (.ireturn, 1) := by decide +kernel
theorem dX11_match_0 : decode cX11_match 0 = .ok (.iload_n 1, 1) := by decide +kernel
theorem dX11_match_1 : decode cX11_match 1 = .ok (.ifCond .lt 9, 3) := by decide +kernel
theorem dX11_match_4 : decode cX11_match 4 = .ok (.iload_n 1, 1) := by decide +kernel
theorem dX11_match_5 : decode cX11_match 5 = .ok (.bipush 6, 2) := by decide +kernel
theorem dX11_match_7 : decode cX11_match 7 = .ok (.if_icmp .le 5, 3) := by decide +kernel
theorem dX11_match_10 : decode cX11_match 10 = .ok (.iconst (-1), 1) := by decide +kernel
theorem dX11_match_11 : decode cX11_match 11 = .ok (.ireturn, 1) := by decide +kernel
theorem dX11_match_12 : decode cX11_match 12 = .ok (.aload_n 0, 1) := by decide +kernel
theorem dX11_match_13 : decode cX11_match 13 = .ok (.invokevirtual 362, 3) := by decide +kernel
theorem dX11_match_16 : decode cX11_match 16 = .ok (.iload_n 1, 1) := by decide +kernel
theorem dX11_match_17 : decode cX11_match 17 = .ok (.bipush 6, 2) := by decide +kernel
theorem dX11_match_19 : decode cX11_match 19 = .ok (.if_icmp .ne 13, 3) := by decide +kernel
theorem dX11_match_22 : decode cX11_match 22 = .ok (.aload_n 0, 1) := by decide +kernel
theorem dX11_match_23 : decode cX11_match 23 = .ok (.getfield 80, 3) := by decide +kernel
theorem dX11_match_26 : decode cX11_match 26 = .ok (.iconst 0, 1) := by decide +kernel
theorem dX11_match_27 : decode cX11_match 27 = .ok (.iconst 0, 1) := by decide +kernel
theorem dX11_match_28 : decode cX11_match 28 = .ok (.invokestatic 365, 3) := by decide +kernel
theorem dX11_match_31 : decode cX11_match 31 = .ok (.ireturn, 1) := by decide +kernel
theorem dX11_match_32 : decode cX11_match 32 = .ok (.iconst 0, 1) := by decide +kernel
theorem dX11_match_33 : decode cX11_match 33 = .ok (.istore_n 2, 1) := by decide +kernel
theorem dX11_match_34 : decode cX11_match 34 = .ok (.iconst 0, 1) := by decide +kernel
theorem dX11_match_35 : decode cX11_match 35 = .ok (.istore_n 3, 1) := by decide +kernel
theorem dX11_match_36 : decode cX11_match 36 = .ok (.iload_n 3, 1) := by decide +kernel
theorem dX11_match_37 : decode cX11_match 37 = .ok (.iload_n 1, 1) := by decide +kernel
theorem dX11_match_38 : decode cX11_match 38 = .ok (.if_icmp .ge 33, 3) := by decide +kernel
theorem dX11_match_41 : decode cX11_match 41 = .ok (.aload_n 0, 1) := by decide +kernel
theorem dX11_match_42 : decode cX11_match 42 = .ok (.iload_n 3, 1) := by decide +kernel
theorem dX11_match_43 : decode cX11_match 43 = .ok (.iload_n 2, 1) := by decide +kernel
theorem dX11_match_44 : decode cX11_match 44 = .ok (.invokevirtual 369, 3) := by decide +kernel
theorem dX11_match_47 : decode cX11_match 47 = .ok (.istore 4, 2) := by decide +kernel
theorem dX11_match_49 : decode cX11_match 49 = .ok (.iload_n 2, 1) := by decide +kernel
theorem dX11_match_50 : decode cX11_match 50 = .ok (.iload 4, 2) := by decide +kernel
theorem dX11_match_52 : decode cX11_match 52 = .ok (.ifCond .ge 7, 3) := by decide +kernel
theorem dX11_match_55 : decode cX11_match 55 = .ok (.iconst 0, 1) := by decide +kernel
theorem dX11_match_56 : decode cX11_match 56 = .ok (.goto 7, 3) := by decide +kernel
theorem dX11_match_59 : decode cX11_match 59 = .ok (.iconst 1, 1) := by decide +kernel
theorem dX11_match_60 : decode cX11_match 60 = .ok (.iload 4, 2) := by decide +kernel
theorem dX11_match_62 : decode cX11_match 62 = .ok (.ishl, 1) := by decide +kernel
theorem dX11_match_63 : decode cX11_match 63 = .ok (.ior, 1) := by decide +kernel
theorem dX11_match_64 : decode cX11_match 64 = .ok (.istore_n 2, 1) := by decide +kernel
theorem dX11_match_65 : decode cX11_match 65 = .ok (.iinc 3 1, 3) := by decide +kernel
theorem dX11_match_68 : decode cX11_match 68 = .ok (.goto (-32), 3) := by decide +kernel
theorem dX11_match_71 : decode cX11_match 71 = .ok (.aload_n 0, 1) := by decide +kernel
theorem dX11_match_72 : decode cX11_match 72 = .ok (.iload_n 1, 1) := by decide +kernel
theorem dX11_match_73 : decode cX11_match 73 = .ok (.iload_n 2, 1) := by decide +kernel
theorem dX11_match_74 : decode cX11_match 74 = .ok (.invokevirtual 369, 3) := by decide +kernel
theorem dX11_match_77 : decode cX11_match 77 = .ok (.ireturn, 1) := by decide +kernel
theorem dX11_gatherLenders_0 : decode cX11_gatherLenders 0 = .ok (.iconst 0, 1) := by decide +kernel
theorem dX11_gatherLenders_1 : decode cX11_gatherLenders 1 = .ok (.istore_n 1, 1) := by decide +kernel
theorem dX11_gatherLenders_2 : decode cX11_gatherLenders 2 = .ok (.iload_n 1, 1) := by decide +kernel
theorem dX11_gatherLenders_3 : decode cX11_gatherLenders 3 = .ok (.bipush 6, 2) := by decide +kernel
theorem dX11_gatherLenders_5 : decode cX11_gatherLenders 5 = .ok (.if_icmp .ge 67, 3) := by decide +kernel
theorem dX11_gatherLenders_8 : decode cX11_gatherLenders 8 = .ok (.iload_n 1, 1) := by decide +kernel
theorem dX11_gatherLenders_9 : decode cX11_gatherLenders 9 = .ok (.aload_n 0, 1) := by decide +kernel
theorem dX11_gatherLenders_10 : decode cX11_gatherLenders 10 = .ok (.getfield 25, 3) := by decide +kernel
theorem dX11_gatherLenders_13 : decode cX11_gatherLenders 13 = .ok (.getfield 194, 3) := by decide +kernel
theorem dX11_gatherLenders_16 : decode cX11_gatherLenders 16 = .ok (.if_icmp .ge 15, 3) := by decide +kernel
theorem dX11_gatherLenders_19 : decode cX11_gatherLenders 19 = .ok (.aload_n 0, 1) := by decide +kernel
theorem dX11_gatherLenders_20 : decode cX11_gatherLenders 20 = .ok (.iload_n 1, 1) := by decide +kernel
theorem dX11_gatherLenders_21 : decode cX11_gatherLenders 21 = .ok (.invokevirtual 150, 3) := by decide +kernel
theorem dX11_gatherLenders_24 : decode cX11_gatherLenders 24 = .ok (.ifCond .ne 7, 3) := by decide +kernel
theorem dX11_gatherLenders_27 : decode cX11_gatherLenders 27 = .ok (.iconst 1, 1) := by decide +kernel
theorem dX11_gatherLenders_28 : decode cX11_gatherLenders 28 = .ok (.goto 4, 3) := by decide +kernel
theorem dX11_gatherLenders_31 : decode cX11_gatherLenders 31 = .ok (.iconst 0, 1) := by decide +kernel
theorem dX11_gatherLenders_32 : decode cX11_gatherLenders 32 = .ok (.istore_n 2, 1) := by decide +kernel
theorem dX11_gatherLenders_33 : decode cX11_gatherLenders 33 = .ok (.aload_n 0, 1) := by decide +kernel
theorem dX11_gatherLenders_34 : decode cX11_gatherLenders 34 = .ok (.getfield 80, 3) := by decide +kernel
theorem dX11_gatherLenders_37 : decode cX11_gatherLenders 37 = .ok (.iload_n 1, 1) := by decide +kernel
theorem dX11_gatherLenders_38 : decode cX11_gatherLenders 38 = .ok (.iload_n 2, 1) := by decide +kernel
theorem dX11_gatherLenders_39 : decode cX11_gatherLenders 39 = .ok (.ifCond .eq 25, 3) := by decide +kernel
theorem dX11_gatherLenders_42 : decode cX11_gatherLenders 42 = .ok (.aload_n 0, 1) := by decide +kernel
theorem dX11_gatherLenders_43 : decode cX11_gatherLenders 43 = .ok (.getfield 25, 3) := by decide +kernel
theorem dX11_gatherLenders_46 : decode cX11_gatherLenders 46 = .ok (.getfield 171, 3) := by decide +kernel
theorem dX11_gatherLenders_49 : decode cX11_gatherLenders 49 = .ok (.iload_n 1, 1) := by decide +kernel
theorem dX11_gatherLenders_50 : decode cX11_gatherLenders 50 = .ok (.iaload, 1) := by decide +kernel
theorem dX11_gatherLenders_51 : decode cX11_gatherLenders 51 = .ok (.aload_n 0, 1) := by decide +kernel
theorem dX11_gatherLenders_52 : decode cX11_gatherLenders 52 = .ok (.getfield 35, 3) := by decide +kernel
theorem dX11_gatherLenders_55 : decode cX11_gatherLenders 55 = .ok (.invokevirtual 350, 3) := by decide +kernel
theorem dX11_gatherLenders_58 : decode cX11_gatherLenders 58 = .ok (.iconst (-1), 1) := by decide +kernel
theorem dX11_gatherLenders_59 : decode cX11_gatherLenders 59 = .ok (.ixor, 1) := by decide +kernel
theorem dX11_gatherLenders_60 : decode cX11_gatherLenders 60 = .ok (.iand, 1) := by decide +kernel
theorem dX11_gatherLenders_61 : decode cX11_gatherLenders 61 = .ok (.goto 4, 3) := by decide +kernel
theorem dX11_gatherLenders_64 : decode cX11_gatherLenders 64 = .ok (.iconst 0, 1) := by decide +kernel
theorem dX11_gatherLenders_65 : decode cX11_gatherLenders 65 = .ok (.iastore, 1) := by decide +kernel
theorem dX11_gatherLenders_66 : decode cX11_gatherLenders 66 = .ok (.iinc 1 1, 3) := by decide +kernel
theorem dX11_gatherLenders_69 : decode cX11_gatherLenders 69 = .ok (.goto (-67), 3) := by decide +kernel
theorem dX11_gatherLenders_72 : decode cX11_gatherLenders 72 = .ok (.return_, 1) := by decide +kernel
theorem dX11_lenderChosen_0 : decode cX11_lenderChosen 0 = .ok (.aload_n 0, 1) := by decide +kernel
theorem dX11_lenderChosen_1 : decode cX11_lenderChosen 1 = .ok (.getfield 80, 3) := by decide +kernel
theorem dX11_lenderChosen_4 : decode cX11_lenderChosen 4 = .ok (.iload_n 1, 1) := by decide +kernel
theorem dX11_lenderChosen_5 : decode cX11_lenderChosen 5 = .ok (.iload_n 2, 1) := by decide +kernel
theorem dX11_lenderChosen_6 : decode cX11_lenderChosen 6 = .ok (.invokestatic 365, 3) := by decide +kernel
theorem dX11_lenderChosen_9 : decode cX11_lenderChosen 9 = .ok (.istore_n 3, 1) := by decide +kernel
theorem dX11_lenderChosen_10 : decode cX11_lenderChosen 10 = .ok (.iconst 0, 1) := by decide +kernel
theorem dX11_lenderChosen_11 : decode cX11_lenderChosen 11 = .ok (.istore 4, 2) := by decide +kernel
theorem dX11_lenderChosen_13 : decode cX11_lenderChosen 13 = .ok (.iload 4, 2) := by decide +kernel
theorem dX11_lenderChosen_15 : decode cX11_lenderChosen 15 = .ok (.bipush 6, 2) := by decide +kernel
theorem dX11_lenderChosen_17 : decode cX11_lenderChosen 17 = .ok (.if_icmp .ge 52, 3) := by decide +kernel
theorem dX11_lenderChosen_20 : decode cX11_lenderChosen 20 = .ok (.aload_n 0, 1) := by decide +kernel
theorem dX11_lenderChosen_21 : decode cX11_lenderChosen 21 = .ok (.getfield 80, 3) := by decide +kernel
theorem dX11_lenderChosen_24 : decode cX11_lenderChosen 24 = .ok (.iload_n 1, 1) := by decide +kernel
theorem dX11_lenderChosen_25 : decode cX11_lenderChosen 25 = .ok (.iaload, 1) := by decide +kernel
theorem dX11_lenderChosen_26 : decode cX11_lenderChosen 26 = .ok (.iload_n 2, 1) := by decide +kernel
theorem dX11_lenderChosen_27 : decode cX11_lenderChosen 27 = .ok (.iconst (-1), 1) := by decide +kernel
theorem dX11_lenderChosen_28 : decode cX11_lenderChosen 28 = .ok (.ixor, 1) := by decide +kernel
theorem dX11_lenderChosen_29 : decode cX11_lenderChosen 29 = .ok (.iand, 1) := by decide +kernel
theorem dX11_lenderChosen_30 : decode cX11_lenderChosen 30 = .ok (.iload 4, 2) := by decide +kernel
theorem dX11_lenderChosen_32 : decode cX11_lenderChosen 32 = .ok (.ishr, 1) := by decide +kernel
theorem dX11_lenderChosen_33 : decode cX11_lenderChosen 33 = .ok (.iconst 1, 1) := by decide +kernel
theorem dX11_lenderChosen_34 : decode cX11_lenderChosen 34 = .ok (.iand, 1) := by decide +kernel
theorem dX11_lenderChosen_35 : decode cX11_lenderChosen 35 = .ok (.ifCond .eq 28, 3) := by decide +kernel
theorem dX11_lenderChosen_38 : decode cX11_lenderChosen 38 = .ok (.iconst 1, 1) := by decide +kernel
theorem dX11_lenderChosen_39 : decode cX11_lenderChosen 39 = .ok (.aload_n 0, 1) := by decide +kernel
theorem dX11_lenderChosen_40 : decode cX11_lenderChosen 40 = .ok (.getfield 80, 3) := by decide +kernel
theorem dX11_lenderChosen_43 : decode cX11_lenderChosen 43 = .ok (.iload_n 1, 1) := by decide +kernel
theorem dX11_lenderChosen_44 : decode cX11_lenderChosen 44 = .ok (.iconst 1, 1) := by decide +kernel
theorem dX11_lenderChosen_45 : decode cX11_lenderChosen 45 = .ok (.iadd, 1) := by decide +kernel
theorem dX11_lenderChosen_46 : decode cX11_lenderChosen 46 = .ok (.iload_n 2, 1) := by decide +kernel
theorem dX11_lenderChosen_47 : decode cX11_lenderChosen 47 = .ok (.iconst 1, 1) := by decide +kernel
theorem dX11_lenderChosen_48 : decode cX11_lenderChosen 48 = .ok (.iload 4, 2) := by decide +kernel
theorem dX11_lenderChosen_50 : decode cX11_lenderChosen 50 = .ok (.ishl, 1) := by decide +kernel
theorem dX11_lenderChosen_51 : decode cX11_lenderChosen 51 = .ok (.ior, 1) := by decide +kernel
theorem dX11_lenderChosen_52 : decode cX11_lenderChosen 52 = .ok (.invokestatic 365, 3) := by decide +kernel
theorem dX11_lenderChosen_55 : decode cX11_lenderChosen 55 = .ok (.iadd, 1) := by decide +kernel
theorem dX11_lenderChosen_56 : decode cX11_lenderChosen 56 = .ok (.iload_n 3, 1) := by decide +kernel
theorem dX11_lenderChosen_57 : decode cX11_lenderChosen 57 = .ok (.if_icmp .ne 6, 3) := by decide +kernel
theorem dX11_lenderChosen_60 : decode cX11_lenderChosen 60 = .ok (.iload 4, 2) := by decide +kernel
theorem dX11_lenderChosen_62 : decode cX11_lenderChosen 62 = .ok (.ireturn, 1) := by decide +kernel
theorem dX11_lenderChosen_63 : decode cX11_lenderChosen 63 = .ok (.iinc 4 1, 3) := by decide +kernel
theorem dX11_lenderChosen_66 : decode cX11_lenderChosen 66 = .ok (.goto (-53), 3) := by decide +kernel
theorem dX11_lenderChosen_69 : decode cX11_lenderChosen 69 = .ok (.bipush (-2), 2) := by decide +kernel
theorem dX11_lenderChosen_71 : decode cX11_lenderChosen 71 = .ok (.ireturn, 1) := by decide +kernel
theorem dX11_mostMatched_0 : decode cX11_mostMatched 0 = .ok (.iload_n 1, 1) := by decide +kernel
theorem dX11_mostMatched_1 : decode cX11_mostMatched 1 = .ok (.ifCond .lt 9, 3) := by decide +kernel
theorem dX11_mostMatched_4 : decode cX11_mostMatched 4 = .ok (.iload_n 1, 1) := by decide +kernel
theorem dX11_mostMatched_5 : decode cX11_mostMatched 5 = .ok (.aload_n 0, 1) := by decide +kernel
theorem dX11_mostMatched_6 : decode cX11_mostMatched 6 = .ok (.arraylength, 1) := by decide +kernel
theorem dX11_mostMatched_7 : decode cX11_mostMatched 7 = .ok (.if_icmp .lt 5, 3) := by decide +kernel
theorem dX11_mostMatched_10 : decode cX11_mostMatched 10 = .ok (.iconst 0, 1) := by decide +kernel
theorem dX11_mostMatched_11 : decode cX11_mostMatched 11 = .ok (.ireturn, 1) := by decide +kernel
theorem dX11_mostMatched_12 : decode cX11_mostMatched 12 = .ok (.aload_n 0, 1) := by decide +kernel
theorem dX11_mostMatched_13 : decode cX11_mostMatched 13 = .ok (.iload_n 1, 1) := by decide +kernel
theorem dX11_mostMatched_14 : decode cX11_mostMatched 14 = .ok (.iconst 1, 1) := by decide +kernel
theorem dX11_mostMatched_15 : decode cX11_mostMatched 15 = .ok (.iadd, 1) := by decide +kernel
theorem dX11_mostMatched_16 : decode cX11_mostMatched 16 = .ok (.iload_n 2, 1) := by decide +kernel
theorem dX11_mostMatched_17 : decode cX11_mostMatched 17 = .ok (.invokestatic 365, 3) := by decide +kernel
theorem dX11_mostMatched_20 : decode cX11_mostMatched 20 = .ok (.istore_n 3, 1) := by decide +kernel
theorem dX11_mostMatched_21 : decode cX11_mostMatched 21 = .ok (.iconst 0, 1) := by decide +kernel
theorem dX11_mostMatched_22 : decode cX11_mostMatched 22 = .ok (.istore 4, 2) := by decide +kernel
theorem dX11_mostMatched_24 : decode cX11_mostMatched 24 = .ok (.iload 4, 2) := by decide +kernel
theorem dX11_mostMatched_26 : decode cX11_mostMatched 26 = .ok (.bipush 6, 2) := by decide +kernel
theorem dX11_mostMatched_28 : decode cX11_mostMatched 28 = .ok (.if_icmp .ge 44, 3) := by decide +kernel
theorem dX11_mostMatched_31 : decode cX11_mostMatched 31 = .ok (.aload_n 0, 1) := by decide +kernel
theorem dX11_mostMatched_32 : decode cX11_mostMatched 32 = .ok (.iload_n 1, 1) := by decide +kernel
theorem dX11_mostMatched_33 : decode cX11_mostMatched 33 = .ok (.iaload, 1) := by decide +kernel
theorem dX11_mostMatched_34 : decode cX11_mostMatched 34 = .ok (.iload_n 2, 1) := by decide +kernel
theorem dX11_mostMatched_35 : decode cX11_mostMatched 35 = .ok (.iconst (-1), 1) := by decide +kernel
theorem dX11_mostMatched_36 : decode cX11_mostMatched 36 = .ok (.ixor, 1) := by decide +kernel
theorem dX11_mostMatched_37 : decode cX11_mostMatched 37 = .ok (.iand, 1) := by decide +kernel
theorem dX11_mostMatched_38 : decode cX11_mostMatched 38 = .ok (.iload 4, 2) := by decide +kernel
theorem dX11_mostMatched_40 : decode cX11_mostMatched 40 = .ok (.ishr, 1) := by decide +kernel
theorem dX11_mostMatched_41 : decode cX11_mostMatched 41 = .ok (.iconst 1, 1) := by decide +kernel
theorem dX11_mostMatched_42 : decode cX11_mostMatched 42 = .ok (.iand, 1) := by decide +kernel
theorem dX11_mostMatched_43 : decode cX11_mostMatched 43 = .ok (.ifCond .eq 23, 3) := by decide +kernel
theorem dX11_mostMatched_46 : decode cX11_mostMatched 46 = .ok (.iload_n 3, 1) := by decide +kernel
theorem dX11_mostMatched_47 : decode cX11_mostMatched 47 = .ok (.iconst 1, 1) := by decide +kernel
theorem dX11_mostMatched_48 : decode cX11_mostMatched 48 = .ok (.aload_n 0, 1) := by decide +kernel
theorem dX11_mostMatched_49 : decode cX11_mostMatched 49 = .ok (.iload_n 1, 1) := by decide +kernel
theorem dX11_mostMatched_50 : decode cX11_mostMatched 50 = .ok (.iconst 1, 1) := by decide +kernel
theorem dX11_mostMatched_51 : decode cX11_mostMatched 51 = .ok (.iadd, 1) := by decide +kernel
theorem dX11_mostMatched_52 : decode cX11_mostMatched 52 = .ok (.iload_n 2, 1) := by decide +kernel
theorem dX11_mostMatched_53 : decode cX11_mostMatched 53 = .ok (.iconst 1, 1) := by decide +kernel
theorem dX11_mostMatched_54 : decode cX11_mostMatched 54 = .ok (.iload 4, 2) := by decide +kernel
theorem dX11_mostMatched_56 : decode cX11_mostMatched 56 = .ok (.ishl, 1) := by decide +kernel
theorem dX11_mostMatched_57 : decode cX11_mostMatched 57 = .ok (.ior, 1) := by decide +kernel
theorem dX11_mostMatched_58 : decode cX11_mostMatched 58 = .ok (.invokestatic 365, 3) := by decide +kernel
theorem dX11_mostMatched_61 : decode cX11_mostMatched 61 = .ok (.iadd, 1) := by decide +kernel
theorem dX11_mostMatched_62 : decode cX11_mostMatched 62 = .ok (.invokestatic 310, 3) := by decide +kernel
theorem dX11_mostMatched_65 : decode cX11_mostMatched 65 = .ok (.istore_n 3, 1) := by decide +kernel
theorem dX11_mostMatched_66 : decode cX11_mostMatched 66 = .ok (.iinc 4 1, 3) := by decide +kernel
theorem dX11_mostMatched_69 : decode cX11_mostMatched 69 = .ok (.goto (-45), 3) := by decide +kernel
theorem dX11_mostMatched_72 : decode cX11_mostMatched 72 = .ok (.iload_n 3, 1) := by decide +kernel
theorem dX11_mostMatched_73 : decode cX11_mostMatched 73 = .ok (.ireturn, 1) := by decide +kernel
theorem dX11_see_0 : decode cX11_see 0 = .ok (.iload_n 1, 1) := by decide +kernel
theorem dX11_see_1 : decode cX11_see 1 = .ok (.iconst 1, 1) := by decide +kernel
theorem dX11_see_2 : decode cX11_see 2 = .ok (.if_icmp .lt 24, 3) := by decide +kernel
theorem dX11_see_5 : decode cX11_see 5 = .ok (.iload_n 1, 1) := by decide +kernel
theorem dX11_see_6 : decode cX11_see 6 = .ok (.bipush 60, 2) := by decide +kernel
theorem dX11_see_8 : decode cX11_see 8 = .ok (.if_icmp .gt 18, 3) := by decide +kernel
theorem dX11_see_11 : decode cX11_see 11 = .ok (.aload_n 0, 1) := by decide +kernel
theorem dX11_see_12 : decode cX11_see 12 = .ok (.iload_n 2, 1) := by decide +kernel
theorem dX11_see_13 : decode cX11_see 13 = .ok (.invokevirtual 120, 3) := by decide +kernel
theorem dX11_see_16 : decode cX11_see 16 = .ok (.ifCond .eq 10, 3) := by decide +kernel
theorem dX11_see_19 : decode cX11_see 19 = .ok (.iload_n 3, 1) := by decide +kernel
theorem dX11_see_20 : decode cX11_see 20 = .ok (.invokestatic 161, 3) := by decide +kernel
theorem dX11_see_23 : decode cX11_see 23 = .ok (.ifCond .ne 5, 3) := by decide +kernel
theorem dX11_see_26 : decode cX11_see 26 = .ok (.iconst (-1), 1) := by decide +kernel
theorem dX11_see_27 : decode cX11_see 27 = .ok (.ireturn, 1) := by decide +kernel
theorem dX11_see_28 : decode cX11_see 28 = .ok (.aload_n 0, 1) := by decide +kernel
theorem dX11_see_29 : decode cX11_see 29 = .ok (.getfield 62, 3) := by decide +kernel
theorem dX11_see_32 : decode cX11_see 32 = .ok (.iload_n 1, 1) := by decide +kernel
theorem dX11_see_33 : decode cX11_see 33 = .ok (.iload_n 2, 1) := by decide +kernel
theorem dX11_see_34 : decode cX11_see 34 = .ok (.iload_n 3, 1) := by decide +kernel
theorem dX11_see_35 : decode cX11_see 35 = .ok (.iload 4, 2) := by decide +kernel
theorem dX11_see_37 : decode cX11_see 37 = .ok (.invokevirtual 372, 3) := by decide +kernel
theorem dX11_see_40 : decode cX11_see 40 = .ok (.ireturn, 1) := by decide +kernel
theorem dX11_strike_0 : decode cX11_strike 0 = .ok (.aload_n 0, 1) := by decide +kernel
theorem dX11_strike_1 : decode cX11_strike 1 = .ok (.getfield 62, 3) := by decide +kernel
theorem dX11_strike_4 : decode cX11_strike 4 = .ok (.iload_n 1, 1) := by decide +kernel
theorem dX11_strike_5 : decode cX11_strike 5 = .ok (.invokevirtual 376, 3) := by decide +kernel
theorem dX11_strike_8 : decode cX11_strike 8 = .ok (.ireturn, 1) := by decide +kernel
theorem dX11_known_0 : decode cX11_known 0 = .ok (.aload_n 0, 1) := by decide +kernel
theorem dX11_known_1 : decode cX11_known 1 = .ok (.getfield 62, 3) := by decide +kernel
theorem dX11_known_4 : decode cX11_known 4 = .ok (.iload_n 1, 1) := by decide +kernel
theorem dX11_known_5 : decode cX11_known 5 = .ok (.invokevirtual 379, 3) := by decide +kernel
theorem dX11_known_8 : decode cX11_known 8 = .ok (.ireturn, 1) := by decide +kernel
theorem dX11_lengths_0 : decode cX11_lengths 0 = .ok (.aload_n 0, 1) := by decide +kernel
theorem dX11_lengths_1 : decode cX11_lengths 1 = .ok (.iload_n 1, 1) := by decide +kernel
theorem dX11_lengths_2 : decode cX11_lengths 2 = .ok (.invokevirtual 120, 3) := by decide +kernel
theorem dX11_lengths_5 : decode cX11_lengths 5 = .ok (.ifCond .eq 11, 3) := by decide +kernel
theorem dX11_lengths_8 : decode cX11_lengths 8 = .ok (.aload_n 0, 1) := by decide +kernel
theorem dX11_lengths_9 : decode cX11_lengths 9 = .ok (.iload_n 1, 1) := by decide +kernel
theorem dX11_lengths_10 : decode cX11_lengths 10 = .ok (.invokevirtual 382, 3) := by decide +kernel
theorem dX11_lengths_13 : decode cX11_lengths 13 = .ok (.goto 4, 3) := by decide +kernel
theorem dX11_lengths_16 : decode cX11_lengths 16 = .ok (.iconst (-1), 1) := by decide +kernel
theorem dX11_lengths_17 : decode cX11_lengths 17 = .ok (.ireturn, 1) := by decide +kernel
theorem dX11_lengthsOf_0 : decode cX11_lengthsOf 0 = .ok (.aload_n 0, 1) := by decide +kernel
theorem dX11_lengthsOf_1 : decode cX11_lengthsOf 1 = .ok (.getfield 62, 3) := by decide +kernel
theorem dX11_lengthsOf_4 : decode cX11_lengthsOf 4 = .ok (.invokevirtual 385, 3) := by decide +kernel
theorem dX11_lengthsOf_7 : decode cX11_lengthsOf 7 = .ok (.istore_n 2, 1) := by decide +kernel
theorem dX11_lengthsOf_8 : decode cX11_lengthsOf 8 = .ok (.iconst 0, 1) := by decide +kernel
theorem dX11_lengthsOf_9 : decode cX11_lengthsOf 9 = .ok (.istore_n 3, 1) := by decide +kernel
theorem dX11_lengthsOf_10 : decode cX11_lengthsOf 10 = .ok (.iload_n 3, 1) := by decide +kernel
theorem dX11_lengthsOf_11 : decode cX11_lengthsOf 11 = .ok (.aload_n 0, 1) := by decide +kernel
theorem dX11_lengthsOf_12 : decode cX11_lengthsOf 12 = .ok (.getfield 25, 3) := by decide +kernel
theorem dX11_lengthsOf_15 : decode cX11_lengthsOf 15 = .ok (.getfield 194, 3) := by decide +kernel
theorem dX11_lengthsOf_18 : decode cX11_lengthsOf 18 = .ok (.if_icmp .ge 34, 3) := by decide +kernel
theorem dX11_lengthsOf_21 : decode cX11_lengthsOf 21 = .ok (.iload_n 3, 1) := by decide +kernel
theorem dX11_lengthsOf_22 : decode cX11_lengthsOf 22 = .ok (.iload_n 1, 1) := by decide +kernel
theorem dX11_lengthsOf_23 : decode cX11_lengthsOf 23 = .ok (.if_icmp .eq 23, 3) := by decide +kernel
theorem dX11_lengthsOf_26 : decode cX11_lengthsOf 26 = .ok (.aload_n 0, 1) := by decide +kernel
theorem dX11_lengthsOf_27 : decode cX11_lengthsOf 27 = .ok (.iload_n 2, 1) := by decide +kernel
theorem dX11_lengthsOf_28 : decode cX11_lengthsOf 28 = .ok (.iload_n 3, 1) := by decide +kernel
theorem dX11_lengthsOf_29 : decode cX11_lengthsOf 29 = .ok (.aload_n 0, 1) := by decide +kernel
theorem dX11_lengthsOf_30 : decode cX11_lengthsOf 30 = .ok (.getfield 25, 3) := by decide +kernel
theorem dX11_lengthsOf_33 : decode cX11_lengthsOf 33 = .ok (.getfield 134, 3) := by decide +kernel
theorem dX11_lengthsOf_36 : decode cX11_lengthsOf 36 = .ok (.iload_n 3, 1) := by decide +kernel
theorem dX11_lengthsOf_37 : decode cX11_lengthsOf 37 = .ok (.iaload, 1) := by decide +kernel
theorem dX11_lengthsOf_38 : decode cX11_lengthsOf 38 = .ok (.invokevirtual 388, 3) := by decide +kernel
theorem dX11_lengthsOf_41 : decode cX11_lengthsOf 41 = .ok (.ifCond .ne 5, 3) := by decide +kernel
theorem dX11_lengthsOf_44 : decode cX11_lengthsOf 44 = .ok (.iconst 0, 1) := by decide +kernel
theorem dX11_lengthsOf_45 : decode cX11_lengthsOf 45 = .ok (.ireturn, 1) := by decide +kernel
theorem dX11_lengthsOf_46 : decode cX11_lengthsOf 46 = .ok (.iinc 3 1, 3) := by decide +kernel
theorem dX11_lengthsOf_49 : decode cX11_lengthsOf 49 = .ok (.goto (-39), 3) := by decide +kernel
theorem dX11_lengthsOf_52 : decode cX11_lengthsOf 52 = .ok (.iconst 0, 1) := by decide +kernel
theorem dX11_lengthsOf_53 : decode cX11_lengthsOf 53 = .ok (.istore_n 3, 1) := by decide +kernel
theorem dX11_lengthsOf_54 : decode cX11_lengthsOf 54 = .ok (.iconst 1, 1) := by decide +kernel
theorem dX11_lengthsOf_55 : decode cX11_lengthsOf 55 = .ok (.istore 4, 2) := by decide +kernel
theorem dX11_lengthsOf_57 : decode cX11_lengthsOf 57 = .ok (.iload 4, 2) := by decide +kernel
theorem dX11_lengthsOf_59 : decode cX11_lengthsOf 59 = .ok (.bipush 30, 2) := by decide +kernel
theorem dX11_lengthsOf_61 : decode cX11_lengthsOf 61 = .ok (.if_icmp .gt 29, 3) := by decide +kernel
theorem dX11_lengthsOf_64 : decode cX11_lengthsOf 64 = .ok (.aload_n 0, 1) := by decide +kernel
theorem dX11_lengthsOf_65 : decode cX11_lengthsOf 65 = .ok (.iload_n 2, 1) := by decide +kernel
theorem dX11_lengthsOf_66 : decode cX11_lengthsOf 66 = .ok (.iload_n 1, 1) := by decide +kernel
theorem dX11_lengthsOf_67 : decode cX11_lengthsOf 67 = .ok (.iload 4, 2) := by decide +kernel
theorem dX11_lengthsOf_69 : decode cX11_lengthsOf 69 = .ok (.invokevirtual 388, 3) := by decide +kernel
theorem dX11_lengthsOf_72 : decode cX11_lengthsOf 72 = .ok (.ifCond .eq 12, 3) := by decide +kernel
theorem dX11_lengthsOf_75 : decode cX11_lengthsOf 75 = .ok (.iload_n 3, 1) := by decide +kernel
theorem dX11_lengthsOf_76 : decode cX11_lengthsOf 76 = .ok (.iconst 1, 1) := by decide +kernel
theorem dX11_lengthsOf_77 : decode cX11_lengthsOf 77 = .ok (.iload 4, 2) := by decide +kernel
theorem dX11_lengthsOf_79 : decode cX11_lengthsOf 79 = .ok (.iconst 1, 1) := by decide +kernel
theorem dX11_lengthsOf_80 : decode cX11_lengthsOf 80 = .ok (.isub, 1) := by decide +kernel
theorem dX11_lengthsOf_81 : decode cX11_lengthsOf 81 = .ok (.ishl, 1) := by decide +kernel
theorem dX11_lengthsOf_82 : decode cX11_lengthsOf 82 = .ok (.ior, 1) := by decide +kernel
theorem dX11_lengthsOf_83 : decode cX11_lengthsOf 83 = .ok (.istore_n 3, 1) := by decide +kernel
theorem dX11_lengthsOf_84 : decode cX11_lengthsOf 84 = .ok (.iinc 4 1, 3) := by decide +kernel
theorem dX11_lengthsOf_87 : decode cX11_lengthsOf 87 = .ok (.goto (-30), 3) := by decide +kernel
theorem dX11_lengthsOf_90 : decode cX11_lengthsOf 90 = .ok (.iload_n 3, 1) := by decide +kernel
theorem dX11_lengthsOf_91 : decode cX11_lengthsOf 91 = .ok (.ireturn, 1) := by decide +kernel
theorem dX11_isAsKnown_0 : decode cX11_isAsKnown 0 = .ok (.aload_n 0, 1) := by decide +kernel
theorem dX11_isAsKnown_1 : decode cX11_isAsKnown 1 = .ok (.getfield 62, 3) := by decide +kernel
theorem dX11_isAsKnown_4 : decode cX11_isAsKnown 4 = .ok (.iload_n 1, 1) := by decide +kernel
theorem dX11_isAsKnown_5 : decode cX11_isAsKnown 5 = .ok (.iload_n 2, 1) := by decide +kernel
theorem dX11_isAsKnown_6 : decode cX11_isAsKnown 6 = .ok (.invokevirtual 391, 3) := by decide +kernel
theorem dX11_isAsKnown_9 : decode cX11_isAsKnown 9 = .ok (.istore 4, 2) := by decide +kernel
theorem dX11_isAsKnown_11 : decode cX11_isAsKnown 11 = .ok (.aload_n 0, 1) := by decide +kernel
theorem dX11_isAsKnown_12 : decode cX11_isAsKnown 12 = .ok (.iload_n 2, 1) := by decide +kernel
theorem dX11_isAsKnown_13 : decode cX11_isAsKnown 13 = .ok (.iload_n 3, 1) := by decide +kernel
theorem dX11_isAsKnown_14 : decode cX11_isAsKnown 14 = .ok (.invokevirtual 394, 3) := by decide +kernel
theorem dX11_isAsKnown_17 : decode cX11_isAsKnown 17 = .ok (.iconst 1, 1) := by decide +kernel
theorem dX11_isAsKnown_18 : decode cX11_isAsKnown 18 = .ok (.istore 5, 2) := by decide +kernel
theorem dX11_isAsKnown_20 : decode cX11_isAsKnown 20 = .ok (.iload 5, 2) := by decide +kernel
theorem dX11_isAsKnown_22 : decode cX11_isAsKnown 22 = .ok (.iload 4, 2) := by decide +kernel
theorem dX11_isAsKnown_24 : decode cX11_isAsKnown 24 = .ok (.if_icmp .gt 44, 3) := by decide +kernel
theorem dX11_isAsKnown_27 : decode cX11_isAsKnown 27 = .ok (.aload_n 0, 1) := by decide +kernel
theorem dX11_isAsKnown_28 : decode cX11_isAsKnown 28 = .ok (.getfield 48, 3) := by decide +kernel
theorem dX11_isAsKnown_31 : decode cX11_isAsKnown 31 = .ok (.aload_n 0, 1) := by decide +kernel
theorem dX11_isAsKnown_32 : decode cX11_isAsKnown 32 = .ok (.getfield 42, 3) := by decide +kernel
theorem dX11_isAsKnown_35 : decode cX11_isAsKnown 35 = .ok (.iconst 1, 1) := by decide +kernel
theorem dX11_isAsKnown_36 : decode cX11_isAsKnown 36 = .ok (.iload_n 2, 1) := by decide +kernel
theorem dX11_isAsKnown_37 : decode cX11_isAsKnown 37 = .ok (.ishl, 1) := by decide +kernel
theorem dX11_isAsKnown_38 : decode cX11_isAsKnown 38 = .ok (.iconst 0, 1) := by decide +kernel
theorem dX11_isAsKnown_39 : decode cX11_isAsKnown 39 = .ok (.invokevirtual 272, 3) := by decide +kernel
theorem dX11_isAsKnown_42 : decode cX11_isAsKnown 42 = .ok (.aload_n 0, 1) := by decide +kernel
theorem dX11_isAsKnown_43 : decode cX11_isAsKnown 43 = .ok (.getfield 62, 3) := by decide +kernel
theorem dX11_isAsKnown_46 : decode cX11_isAsKnown 46 = .ok (.iload_n 1, 1) := by decide +kernel
theorem dX11_isAsKnown_47 : decode cX11_isAsKnown 47 = .ok (.iload 5, 2) := by decide +kernel
theorem dX11_isAsKnown_49 : decode cX11_isAsKnown 49 = .ok (.iload_n 2, 1) := by decide +kernel
theorem dX11_isAsKnown_50 : decode cX11_isAsKnown 50 = .ok (.aload_n 0, 1) := by decide +kernel
theorem dX11_isAsKnown_51 : decode cX11_isAsKnown 51 = .ok (.getfield 42, 3) := by decide +kernel
theorem dX11_isAsKnown_54 : decode cX11_isAsKnown 54 = .ok (.invokevirtual 397, 3) := by decide +kernel
theorem dX11_isAsKnown_57 : decode cX11_isAsKnown 57 = .ok (.ifCond .ne 5, 3) := by decide +kernel
theorem dX11_isAsKnown_60 : decode cX11_isAsKnown 60 = .ok (.iconst 0, 1) := by decide +kernel
theorem dX11_isAsKnown_61 : decode cX11_isAsKnown 61 = .ok (.ireturn, 1) := by decide +kernel
theorem dX11_isAsKnown_62 : decode cX11_isAsKnown 62 = .ok (.iinc 5 1, 3) := by decide +kernel
theorem dX11_isAsKnown_65 : decode cX11_isAsKnown 65 = .ok (.goto (-45), 3) := by decide +kernel
theorem dX11_isAsKnown_68 : decode cX11_isAsKnown 68 = .ok (.iconst 1, 1) := by decide +kernel
theorem dX11_isAsKnown_69 : decode cX11_isAsKnown 69 = .ok (.ireturn, 1) := by decide +kernel
theorem dX11_beginWith_0 : decode cX11_beginWith 0 = .ok (.aload_n 0, 1) := by decide +kernel
theorem dX11_beginWith_1 : decode cX11_beginWith 1 = .ok (.getfield 48, 3) := by decide +kernel
theorem dX11_beginWith_4 : decode cX11_beginWith 4 = .ok (.aload_n 0, 1) := by decide +kernel
theorem dX11_beginWith_5 : decode cX11_beginWith 5 = .ok (.getfield 25, 3) := by decide +kernel
theorem dX11_beginWith_8 : decode cX11_beginWith 8 = .ok (.iconst 0, 1) := by decide +kernel
theorem dX11_beginWith_9 : decode cX11_beginWith 9 = .ok (.invokevirtual 269, 3) := by decide +kernel
theorem dX11_beginWith_12 : decode cX11_beginWith 12 = .ok (.aload_n 0, 1) := by decide +kernel
theorem dX11_beginWith_13 : decode cX11_beginWith 13 = .ok (.getfield 42, 3) := by decide +kernel
theorem dX11_beginWith_16 : decode cX11_beginWith 16 = .ok (.aload_n 0, 1) := by decide +kernel
theorem dX11_beginWith_17 : decode cX11_beginWith 17 = .ok (.getfield 25, 3) := by decide +kernel
theorem dX11_beginWith_20 : decode cX11_beginWith 20 = .ok (.invokevirtual 98, 3) := by decide +kernel
theorem dX11_beginWith_23 : decode cX11_beginWith 23 = .ok (.aload_n 0, 1) := by decide +kernel
theorem dX11_beginWith_24 : decode cX11_beginWith 24 = .ok (.getfield 42, 3) := by decide +kernel
theorem dX11_beginWith_27 : decode cX11_beginWith 27 = .ok (.getfield 140, 3) := by decide +kernel
theorem dX11_beginWith_30 : decode cX11_beginWith 30 = .ok (.iload_n 1, 1) := by decide +kernel
theorem dX11_beginWith_31 : decode cX11_beginWith 31 = .ok (.iload_n 2, 1) := by decide +kernel
theorem dX11_beginWith_32 : decode cX11_beginWith 32 = .ok (.iastore, 1) := by decide +kernel
theorem dX11_beginWith_33 : decode cX11_beginWith 33 = .ok (.return_, 1) := by decide +kernel
theorem dX11_ask_0 : decode cX11_ask 0 = .ok (.aload_n 0, 1) := by decide +kernel
theorem dX11_ask_1 : decode cX11_ask 1 = .ok (.iload_n 1, 1) := by decide +kernel
theorem dX11_ask_2 : decode cX11_ask 2 = .ok (.invokevirtual 120, 3) := by decide +kernel
theorem dX11_ask_5 : decode cX11_ask 5 = .ok (.ifCond .eq 12, 3) := by decide +kernel
theorem dX11_ask_8 : decode cX11_ask 8 = .ok (.iload_n 2, 1) := by decide +kernel
theorem dX11_ask_9 : decode cX11_ask 9 = .ok (.ifCond .eq 10, 3) := by decide +kernel
theorem dX11_ask_12 : decode cX11_ask 12 = .ok (.iload_n 2, 1) := by decide +kernel
theorem dX11_ask_13 : decode cX11_ask 13 = .ok (.iconst 1, 1) := by decide +kernel
theorem dX11_ask_14 : decode cX11_ask 14 = .ok (.if_icmp .eq 5, 3) := by decide +kernel
theorem dX11_ask_17 : decode cX11_ask 17 = .ok (.iconst (-1), 1) := by decide +kernel
theorem dX11_ask_18 : decode cX11_ask 18 = .ok (.ireturn, 1) := by decide +kernel
theorem dX11_ask_19 : decode cX11_ask 19 = .ok (.aload_n 0, 1) := by decide +kernel
theorem dX11_ask_20 : decode cX11_ask 20 = .ok (.iload_n 1, 1) := by decide +kernel
theorem dX11_ask_21 : decode cX11_ask 21 = .ok (.invokevirtual 382, 3) := by decide +kernel
theorem dX11_ask_24 : decode cX11_ask 24 = .ok (.istore_n 3, 1) := by decide +kernel
theorem dX11_ask_25 : decode cX11_ask 25 = .ok (.iload_n 3, 1) := by decide +kernel
theorem dX11_ask_26 : decode cX11_ask 26 = .ok (.invokestatic 356, 3) := by decide +kernel
theorem dX11_ask_29 : decode cX11_ask 29 = .ok (.istore 4, 2) := by decide +kernel
theorem dX11_ask_31 : decode cX11_ask 31 = .ok (.aload_n 0, 1) := by decide +kernel
theorem dX11_ask_32 : decode cX11_ask 32 = .ok (.iload_n 1, 1) := by decide +kernel
theorem dX11_ask_33 : decode cX11_ask 33 = .ok (.iload_n 3, 1) := by decide +kernel
theorem dX11_ask_34 : decode cX11_ask 34 = .ok (.invokevirtual 401, 3) := by decide +kernel
theorem dX11_ask_37 : decode cX11_ask 37 = .ok (.iconst 0, 1) := by decide +kernel
theorem dX11_ask_38 : decode cX11_ask 38 = .ok (.istore 5, 2) := by decide +kernel
theorem dX11_ask_40 : decode cX11_ask 40 = .ok (.iconst 1, 1) := by decide +kernel
theorem dX11_ask_41 : decode cX11_ask 41 = .ok (.istore 6, 2) := by decide +kernel
theorem dX11_ask_43 : decode cX11_ask 43 = .ok (.iload 6, 2) := by decide +kernel
theorem dX11_ask_45 : decode cX11_ask 45 = .ok (.aload_n 0, 1) := by decide +kernel
theorem dX11_ask_46 : decode cX11_ask 46 = .ok (.getfield 83, 3) := by decide +kernel
theorem dX11_ask_49 : decode cX11_ask 49 = .ok (.arraylength, 1) := by decide +kernel
theorem dX11_ask_50 : decode cX11_ask 50 = .ok (.if_icmp .ge 32, 3) := by decide +kernel
theorem dX11_ask_53 : decode cX11_ask 53 = .ok (.aload_n 0, 1) := by decide +kernel
theorem dX11_ask_54 : decode cX11_ask 54 = .ok (.iload 6, 2) := by decide +kernel
theorem dX11_ask_56 : decode cX11_ask 56 = .ok (.iload 4, 2) := by decide +kernel
theorem dX11_ask_58 : decode cX11_ask 58 = .ok (.invokevirtual 404, 3) := by decide +kernel
theorem dX11_ask_61 : decode cX11_ask 61 = .ok (.aload_n 0, 1) := by decide +kernel
theorem dX11_ask_62 : decode cX11_ask 62 = .ok (.iload 5, 2) := by decide +kernel
theorem dX11_ask_64 : decode cX11_ask 64 = .ok (.iload 4, 2) := by decide +kernel
theorem dX11_ask_66 : decode cX11_ask 66 = .ok (.invokevirtual 404, 3) := by decide +kernel
theorem dX11_ask_69 : decode cX11_ask 69 = .ok (.if_icmp .ge 7, 3) := by decide +kernel
theorem dX11_ask_72 : decode cX11_ask 72 = .ok (.iload 6, 2) := by decide +kernel
theorem dX11_ask_74 : decode cX11_ask 74 = .ok (.istore 5, 2) := by decide +kernel
theorem dX11_ask_76 : decode cX11_ask 76 = .ok (.iinc 6 1, 3) := by decide +kernel
theorem dX11_ask_79 : decode cX11_ask 79 = .ok (.goto (-36), 3) := by decide +kernel
theorem dX11_ask_82 : decode cX11_ask 82 = .ok (.iload_n 2, 1) := by decide +kernel
theorem dX11_ask_83 : decode cX11_ask 83 = .ok (.ifCond .ne 8, 3) := by decide +kernel
theorem dX11_ask_86 : decode cX11_ask 86 = .ok (.iload 5, 2) := by decide +kernel
theorem dX11_ask_88 : decode cX11_ask 88 = .ok (.goto 11, 3) := by decide +kernel
theorem dX11_ask_91 : decode cX11_ask 91 = .ok (.aload_n 0, 1) := by decide +kernel
theorem dX11_ask_92 : decode cX11_ask 92 = .ok (.iload 5, 2) := by decide +kernel
theorem dX11_ask_94 : decode cX11_ask 94 = .ok (.iload 4, 2) := by decide +kernel
theorem dX11_ask_96 : decode cX11_ask 96 = .ok (.invokevirtual 404, 3) := by decide +kernel
theorem dX11_ask_99 : decode cX11_ask 99 = .ok (.ireturn, 1) := by decide +kernel
theorem dX11_atWorst_0 : decode cX11_atWorst 0 = .ok (.aload_n 0, 1) := by decide +kernel
theorem dX11_atWorst_1 : decode cX11_atWorst 1 = .ok (.getfield 83, 3) := by decide +kernel
theorem dX11_atWorst_4 : decode cX11_atWorst 4 = .ok (.iload_n 1, 1) := by decide +kernel
theorem dX11_atWorst_5 : decode cX11_atWorst 5 = .ok (.iaload, 1) := by decide +kernel
theorem dX11_atWorst_6 : decode cX11_atWorst 6 = .ok (.iload_n 2, 1) := by decide +kernel
theorem dX11_atWorst_7 : decode cX11_atWorst 7 = .ok (.aload_n 0, 1) := by decide +kernel
theorem dX11_atWorst_8 : decode cX11_atWorst 8 = .ok (.getfield 83, 3) := by decide +kernel
theorem dX11_atWorst_11 : decode cX11_atWorst 11 = .ok (.iload_n 1, 1) := by decide +kernel
theorem dX11_atWorst_12 : decode cX11_atWorst 12 = .ok (.iaload, 1) := by decide +kernel
theorem dX11_atWorst_13 : decode cX11_atWorst 13 = .ok (.isub, 1) := by decide +kernel
theorem dX11_atWorst_14 : decode cX11_atWorst 14 = .ok (.invokestatic 310, 3) := by decide +kernel
theorem dX11_atWorst_17 : decode cX11_atWorst 17 = .ok (.ireturn, 1) := by decide +kernel
theorem dX11_countLeft_0 : decode cX11_countLeft 0 = .ok (.aload_n 0, 1) := by decide +kernel
theorem dX11_countLeft_1 : decode cX11_countLeft 1 = .ok (.getfield 83, 3) := by decide +kernel
theorem dX11_countLeft_4 : decode cX11_countLeft 4 = .ok (.iconst 0, 1) := by decide +kernel
theorem dX11_countLeft_5 : decode cX11_countLeft 5 = .ok (.invokestatic 407, 3) := by decide +kernel
theorem dX11_countLeft_8 : decode cX11_countLeft 8 = .ok (.iconst 1, 1) := by decide +kernel
theorem dX11_countLeft_9 : decode cX11_countLeft 9 = .ok (.istore_n 3, 1) := by decide +kernel
theorem dX11_countLeft_10 : decode cX11_countLeft 10 = .ok (.iload_n 3, 1) := by decide +kernel
theorem dX11_countLeft_11 : decode cX11_countLeft 11 = .ok (.bipush 30, 2) := by decide +kernel
theorem dX11_countLeft_13 : decode cX11_countLeft 13 = .ok (.if_icmp .gt 61, 3) := by decide +kernel
theorem dX11_countLeft_16 : decode cX11_countLeft 16 = .ok (.iload_n 2, 1) := by decide +kernel
theorem dX11_countLeft_17 : decode cX11_countLeft 17 = .ok (.iload_n 3, 1) := by decide +kernel
theorem dX11_countLeft_18 : decode cX11_countLeft 18 = .ok (.iconst 1, 1) := by decide +kernel
theorem dX11_countLeft_19 : decode cX11_countLeft 19 = .ok (.isub, 1) := by decide +kernel
theorem dX11_countLeft_20 : decode cX11_countLeft 20 = .ok (.ishr, 1) := by decide +kernel
theorem dX11_countLeft_21 : decode cX11_countLeft 21 = .ok (.iconst 1, 1) := by decide +kernel
theorem dX11_countLeft_22 : decode cX11_countLeft 22 = .ok (.iand, 1) := by decide +kernel
theorem dX11_countLeft_23 : decode cX11_countLeft 23 = .ok (.ifCond .eq 45, 3) := by decide +kernel
theorem dX11_countLeft_26 : decode cX11_countLeft 26 = .ok (.aload_n 0, 1) := by decide +kernel
theorem dX11_countLeft_27 : decode cX11_countLeft 27 = .ok (.iload_n 1, 1) := by decide +kernel
theorem dX11_countLeft_28 : decode cX11_countLeft 28 = .ok (.iload_n 3, 1) := by decide +kernel
theorem dX11_countLeft_29 : decode cX11_countLeft 29 = .ok (.invokevirtual 394, 3) := by decide +kernel
theorem dX11_countLeft_32 : decode cX11_countLeft 32 = .ok (.iconst 0, 1) := by decide +kernel
theorem dX11_countLeft_33 : decode cX11_countLeft 33 = .ok (.istore 4, 2) := by decide +kernel
theorem dX11_countLeft_35 : decode cX11_countLeft 35 = .ok (.iload 4, 2) := by decide +kernel
theorem dX11_countLeft_37 : decode cX11_countLeft 37 = .ok (.bipush 20, 2) := by decide +kernel
theorem dX11_countLeft_39 : decode cX11_countLeft 39 = .ok (.if_icmp .ge 24, 3) := by decide +kernel
theorem dX11_countLeft_42 : decode cX11_countLeft 42 = .ok (.aload_n 0, 1) := by decide +kernel
theorem dX11_countLeft_43 : decode cX11_countLeft 43 = .ok (.getfield 48, 3) := by decide +kernel
theorem dX11_countLeft_46 : decode cX11_countLeft 46 = .ok (.aload_n 0, 1) := by decide +kernel
theorem dX11_countLeft_47 : decode cX11_countLeft 47 = .ok (.getfield 42, 3) := by decide +kernel
theorem dX11_countLeft_50 : decode cX11_countLeft 50 = .ok (.iconst 1, 1) := by decide +kernel
theorem dX11_countLeft_51 : decode cX11_countLeft 51 = .ok (.iload_n 1, 1) := by decide +kernel
theorem dX11_countLeft_52 : decode cX11_countLeft 52 = .ok (.ishl, 1) := by decide +kernel
theorem dX11_countLeft_53 : decode cX11_countLeft 53 = .ok (.iconst 0, 1) := by decide +kernel
theorem dX11_countLeft_54 : decode cX11_countLeft 54 = .ok (.invokevirtual 272, 3) := by decide +kernel
theorem dX11_countLeft_57 : decode cX11_countLeft 57 = .ok (.iinc 4 1, 3) := by decide +kernel
theorem dX11_countLeft_60 : decode cX11_countLeft 60 = .ok (.goto (-25), 3) := by decide +kernel
theorem dX11_countLeft_63 : decode cX11_countLeft 63 = .ok (.aload_n 0, 1) := by decide +kernel
theorem dX11_countLeft_64 : decode cX11_countLeft 64 = .ok (.iload_n 1, 1) := by decide +kernel
theorem dX11_countLeft_65 : decode cX11_countLeft 65 = .ok (.invokevirtual 413, 3) := by decide +kernel
theorem dX11_countLeft_68 : decode cX11_countLeft 68 = .ok (.iinc 3 1, 3) := by decide +kernel
theorem dX11_countLeft_71 : decode cX11_countLeft 71 = .ok (.goto (-61), 3) := by decide +kernel
theorem dX11_countLeft_74 : decode cX11_countLeft 74 = .ok (.return_, 1) := by decide +kernel
theorem dX11_addLeft_0 : decode cX11_addLeft 0 = .ok (.iconst 0, 1) := by decide +kernel
theorem dX11_addLeft_1 : decode cX11_addLeft 1 = .ok (.istore_n 2, 1) := by decide +kernel
theorem dX11_addLeft_2 : decode cX11_addLeft 2 = .ok (.iload_n 2, 1) := by decide +kernel
theorem dX11_addLeft_3 : decode cX11_addLeft 3 = .ok (.aload_n 0, 1) := by decide +kernel
theorem dX11_addLeft_4 : decode cX11_addLeft 4 = .ok (.getfield 83, 3) := by decide +kernel
theorem dX11_addLeft_7 : decode cX11_addLeft 7 = .ok (.arraylength, 1) := by decide +kernel
theorem dX11_addLeft_8 : decode cX11_addLeft 8 = .ok (.if_icmp .ge 31, 3) := by decide +kernel
theorem dX11_addLeft_11 : decode cX11_addLeft 11 = .ok (.aload_n 0, 1) := by decide +kernel
theorem dX11_addLeft_12 : decode cX11_addLeft 12 = .ok (.getfield 42, 3) := by decide +kernel
theorem dX11_addLeft_15 : decode cX11_addLeft 15 = .ok (.iload_n 1, 1) := by decide +kernel
theorem dX11_addLeft_16 : decode cX11_addLeft 16 = .ok (.iload_n 2, 1) := by decide +kernel
theorem dX11_addLeft_17 : decode cX11_addLeft 17 = .ok (.invokevirtual 168, 3) := by decide +kernel
theorem dX11_addLeft_20 : decode cX11_addLeft 20 = .ok (.ifCond .eq 13, 3) := by decide +kernel
theorem dX11_addLeft_23 : decode cX11_addLeft 23 = .ok (.aload_n 0, 1) := by decide +kernel
theorem dX11_addLeft_24 : decode cX11_addLeft 24 = .ok (.getfield 83, 3) := by decide +kernel
theorem dX11_addLeft_27 : decode cX11_addLeft 27 = .ok (.iload_n 2, 1) := by decide +kernel
theorem dX11_addLeft_28 : decode cX11_addLeft 28 = .ok (.dup2, 1) := by decide +kernel
theorem dX11_addLeft_29 : decode cX11_addLeft 29 = .ok (.iaload, 1) := by decide +kernel
theorem dX11_addLeft_30 : decode cX11_addLeft 30 = .ok (.iconst 1, 1) := by decide +kernel
theorem dX11_addLeft_31 : decode cX11_addLeft 31 = .ok (.iadd, 1) := by decide +kernel
theorem dX11_addLeft_32 : decode cX11_addLeft 32 = .ok (.iastore, 1) := by decide +kernel
theorem dX11_addLeft_33 : decode cX11_addLeft 33 = .ok (.iinc 2 1, 3) := by decide +kernel
theorem dX11_addLeft_36 : decode cX11_addLeft 36 = .ok (.goto (-34), 3) := by decide +kernel
theorem dX11_addLeft_39 : decode cX11_addLeft 39 = .ok (.return_, 1) := by decide +kernel
theorem dX12_init_0 : decode cX12_init 0 = .ok (.aload_n 0, 1) := by decide +kernel
theorem dX12_init_1 : decode cX12_init 1 = .ok (.invokespecial 1, 3) := by decide +kernel
theorem dX12_init_4 : decode cX12_init 4 = .ok (.aload_n 0, 1) := by decide +kernel
theorem dX12_init_5 : decode cX12_init 5 = .ok (.sipush 700, 3) := by decide +kernel
theorem dX12_init_8 : decode cX12_init 8 = .ok (.newarray .int, 2) := by decide +kernel
theorem dX12_init_10 : decode cX12_init 10 = .ok (.putfield 7, 3) := by decide +kernel
theorem dX12_init_13 : decode cX12_init 13 = .ok (.aload_n 0, 1) := by decide +kernel
theorem dX12_init_14 : decode cX12_init 14 = .ok (.bipush 16, 2) := by decide +kernel
theorem dX12_init_16 : decode cX12_init 16 = .ok (.newarray .int, 2) := by decide +kernel
theorem dX12_init_18 : decode cX12_init 18 = .ok (.putfield 13, 3) := by decide +kernel
theorem dX12_init_21 : decode cX12_init 21 = .ok (.aload_n 0, 1) := by decide +kernel
theorem dX12_init_22 : decode cX12_init 22 = .ok (.bipush 12, 2) := by decide +kernel
theorem dX12_init_24 : decode cX12_init 24 = .ok (.newarray .int, 2) := by decide +kernel
theorem dX12_init_26 : decode cX12_init 26 = .ok (.putfield 16, 3) := by decide +kernel
theorem dX12_init_29 : decode cX12_init 29 = .ok (.aload_n 0, 1) := by decide +kernel
theorem dX12_init_30 : decode cX12_init 30 = .ok (.bipush 12, 2) := by decide +kernel
theorem dX12_init_32 : decode cX12_init 32 = .ok (.newarray .int, 2) := by decide +kernel
theorem dX12_init_34 : decode cX12_init 34 = .ok (.putfield 19, 3) := by decide +kernel
theorem dX12_init_37 : decode cX12_init 37 = .ok (.aload_n 0, 1) := by decide +kernel
theorem dX12_init_38 : decode cX12_init 38 = .ok (.bipush 24, 2) := by decide +kernel
theorem dX12_init_40 : decode cX12_init 40 = .ok (.newarray .int, 2) := by decide +kernel
theorem dX12_init_42 : decode cX12_init 42 = .ok (.putfield 22, 3) := by decide +kernel
theorem dX12_init_45 : decode cX12_init 45 = .ok (.aload_n 0, 1) := by decide +kernel
theorem dX12_init_46 : decode cX12_init 46 = .ok (.bipush 24, 2) := by decide +kernel
theorem dX12_init_48 : decode cX12_init 48 = .ok (.newarray .int, 2) := by decide +kernel
theorem dX12_init_50 : decode cX12_init 50 = .ok (.putfield 25, 3) := by decide +kernel
theorem dX12_init_53 : decode cX12_init 53 = .ok (.aload_n 0, 1) := by decide +kernel
theorem dX12_init_54 : decode cX12_init 54 = .ok (.bipush 24, 2) := by decide +kernel
theorem dX12_init_56 : decode cX12_init 56 = .ok (.newarray .int, 2) := by decide +kernel
theorem dX12_init_58 : decode cX12_init 58 = .ok (.putfield 28, 3) := by decide +kernel
theorem dX12_init_61 : decode cX12_init 61 = .ok (.aload_n 0, 1) := by decide +kernel
theorem dX12_init_62 : decode cX12_init 62 = .ok (.bipush 24, 2) := by decide +kernel
theorem dX12_init_64 : decode cX12_init 64 = .ok (.newarray .int, 2) := by decide +kernel
theorem dX12_init_66 : decode cX12_init 66 = .ok (.putfield 31, 3) := by decide +kernel
theorem dX12_init_69 : decode cX12_init 69 = .ok (.aload_n 0, 1) := by decide +kernel
theorem dX12_init_70 : decode cX12_init 70 = .ok (.bipush 24, 2) := by decide +kernel
theorem dX12_init_72 : decode cX12_init 72 = .ok (.newarray .int, 2) := by decide +kernel
theorem dX12_init_74 : decode cX12_init 74 = .ok (.putfield 34, 3) := by decide +kernel
theorem dX12_init_77 : decode cX12_init 77 = .ok (.aload_n 0, 1) := by decide +kernel
theorem dX12_init_78 : decode cX12_init 78 = .ok (.bipush 16, 2) := by decide +kernel
theorem dX12_init_80 : decode cX12_init 80 = .ok (.newarray .int, 2) := by decide +kernel
theorem dX12_init_82 : decode cX12_init 82 = .ok (.putfield 37, 3) := by decide +kernel
theorem dX12_init_85 : decode cX12_init 85 = .ok (.aload_n 0, 1) := by decide +kernel
theorem dX12_init_86 : decode cX12_init 86 = .ok (.bipush 16, 2) := by decide +kernel
theorem dX12_init_88 : decode cX12_init 88 = .ok (.newarray .int, 2) := by decide +kernel
theorem dX12_init_90 : decode cX12_init 90 = .ok (.putfield 40, 3) := by decide +kernel
theorem dX12_init_93 : decode cX12_init 93 = .ok (.aload_n 0, 1) := by decide +kernel
theorem dX12_init_94 : decode cX12_init 94 = .ok (.bipush 16, 2) := by decide +kernel
theorem dX12_init_96 : decode cX12_init 96 = .ok (.newarray .int, 2) := by decide +kernel
theorem dX12_init_98 : decode cX12_init 98 = .ok (.putfield 43, 3) := by decide +kernel
theorem dX12_init_101 : decode cX12_init 101 = .ok (.aload_n 0, 1) := by decide +kernel
theorem dX12_init_102 : decode cX12_init 102 = .ok (.bipush 16, 2) := by decide +kernel
theorem dX12_init_104 : decode cX12_init 104 = .ok (.newarray .int, 2) := by decide +kernel
theorem dX12_init_106 : decode cX12_init 106 = .ok (.putfield 46, 3) := by decide +kernel
theorem dX12_init_109 : decode cX12_init 109 = .ok (.aload_n 0, 1) := by decide +kernel
theorem dX12_init_110 : decode cX12_init 110 = .ok (.bipush 16, 2) := by decide +kernel
theorem dX12_init_112 : decode cX12_init 112 = .ok (.newarray .int, 2) := by decide +kernel
theorem dX12_init_114 : decode cX12_init 114 = .ok (.putfield 49, 3) := by decide +kernel
theorem dX12_init_117 : decode cX12_init 117 = .ok (.aload_n 0, 1) := by decide +kernel
theorem dX12_init_118 : decode cX12_init 118 = .ok (.bipush 6, 2) := by decide +kernel
theorem dX12_init_120 : decode cX12_init 120 = .ok (.newarray .int, 2) := by decide +kernel
theorem dX12_init_122 : decode cX12_init 122 = .ok (.putfield 52, 3) := by decide +kernel
theorem dX12_init_125 : decode cX12_init 125 = .ok (.aload_n 0, 1) := by decide +kernel
theorem dX12_init_126 : decode cX12_init 126 = .ok (.bipush 6, 2) := by decide +kernel
theorem dX12_init_128 : decode cX12_init 128 = .ok (.newarray .int, 2) := by decide +kernel
theorem dX12_init_130 : decode cX12_init 130 = .ok (.putfield 55, 3) := by decide +kernel
theorem dX12_init_133 : decode cX12_init 133 = .ok (.aload_n 0, 1) := by decide +kernel
theorem dX12_init_134 : decode cX12_init 134 = .ok (.sipush 128, 3) := by decide +kernel
theorem dX12_init_137 : decode cX12_init 137 = .ok (.newarray .int, 2) := by decide +kernel
theorem dX12_init_139 : decode cX12_init 139 = .ok (.putfield 58, 3) := by decide +kernel
theorem dX12_init_142 : decode cX12_init 142 = .ok (.aload_n 0, 1) := by decide +kernel
theorem dX12_init_143 : decode cX12_init 143 = .ok (.sipush 128, 3) := by decide +kernel
theorem dX12_init_146 : decode cX12_init 146 = .ok (.newarray .int, 2) := by decide +kernel
theorem dX12_init_148 : decode cX12_init 148 = .ok (.putfield 61, 3) := by decide +kernel
theorem dX12_init_151 : decode cX12_init 151 = .ok (.aload_n 0, 1) := by decide +kernel
theorem dX12_init_152 : decode cX12_init 152 = .ok (.iconst (-1), 1) := by decide +kernel
theorem dX12_init_153 : decode cX12_init 153 = .ok (.putfield 64, 3) := by decide +kernel
theorem dX12_init_156 : decode cX12_init 156 = .ok (.aload_n 0, 1) := by decide +kernel
theorem dX12_init_157 : decode cX12_init 157 = .ok (.bipush 7, 2) := by decide +kernel
theorem dX12_init_159 : decode cX12_init 159 = .ok (.newarray .long, 2) := by decide +kernel
theorem dX12_init_161 : decode cX12_init 161 = .ok (.putfield 68, 3) := by decide +kernel
theorem dX12_init_164 : decode cX12_init 164 = .ok (.aload_n 0, 1) := by decide +kernel
theorem dX12_init_165 : decode cX12_init 165 = .ok (.bipush 64, 2) := by decide +kernel
theorem dX12_init_167 : decode cX12_init 167 = .ok (.newarray .long, 2) := by decide +kernel
theorem dX12_init_169 : decode cX12_init 169 = .ok (.putfield 72, 3) := by decide +kernel
theorem dX12_init_172 : decode cX12_init 172 = .ok (.aload_n 0, 1) := by decide +kernel
theorem dX12_init_173 : decode cX12_init 173 = .ok (.bipush 23, 2) := by decide +kernel
theorem dX12_init_175 : decode cX12_init 175 = .ok (.newarray .int, 2) := by decide +kernel
theorem dX12_init_177 : decode cX12_init 177 = .ok (.putfield 75, 3) := by decide +kernel
theorem dX12_init_180 : decode cX12_init 180 = .ok (.aload_n 0, 1) := by decide +kernel
theorem dX12_init_181 : decode cX12_init 181 = .ok (.bipush 23, 2) := by decide +kernel
theorem dX12_init_183 : decode cX12_init 183 = .ok (.newarray .int, 2) := by decide +kernel
theorem dX12_init_185 : decode cX12_init 185 = .ok (.putfield 78, 3) := by decide +kernel
theorem dX12_init_188 : decode cX12_init 188 = .ok (.aload_n 0, 1) := by decide +kernel
theorem dX12_init_189 : decode cX12_init 189 = .ok (.bipush 23, 2) := by decide +kernel
theorem dX12_init_191 : decode cX12_init 191 = .ok (.newarray .int, 2) := by decide +kernel
theorem dX12_init_193 : decode cX12_init 193 = .ok (.putfield 81, 3) := by decide +kernel
theorem dX12_init_196 : decode cX12_init 196 = .ok (.aload_n 0, 1) := by decide +kernel
theorem dX12_init_197 : decode cX12_init 197 = .ok (.bipush 23, 2) := by decide +kernel
theorem dX12_init_199 : decode cX12_init 199 = .ok (.newarray .int, 2) := by decide +kernel
theorem dX12_init_201 : decode cX12_init 201 = .ok (.putfield 84, 3) := by decide +kernel
theorem dX12_init_204 : decode cX12_init 204 = .ok (.aload_n 0, 1) := by decide +kernel
theorem dX12_init_205 : decode cX12_init 205 = .ok (.sipush 138, 3) := by decide +kernel
theorem dX12_init_208 : decode cX12_init 208 = .ok (.newarray .int, 2) := by decide +kernel
theorem dX12_init_210 : decode cX12_init 210 = .ok (.putfield 87, 3) := by decide +kernel
theorem dX12_init_213 : decode cX12_init 213 = .ok (.aload_n 0, 1) := by decide +kernel
theorem dX12_init_214 : decode cX12_init 214 = .ok (.sipush 138, 3) := by decide +kernel
theorem dX12_init_217 : decode cX12_init 217 = .ok (.newarray .int, 2) := by decide +kernel
theorem dX12_init_219 : decode cX12_init 219 = .ok (.putfield 90, 3) := by decide +kernel
theorem dX12_init_222 : decode cX12_init 222 = .ok (.aload_n 0, 1) := by decide +kernel
theorem dX12_init_223 : decode cX12_init 223 = .ok (.sipush 138, 3) := by decide +kernel
theorem dX12_init_226 : decode cX12_init 226 = .ok (.newarray .int, 2) := by decide +kernel
theorem dX12_init_228 : decode cX12_init 228 = .ok (.putfield 93, 3) := by decide +kernel
theorem dX12_init_231 : decode cX12_init 231 = .ok (.aload_n 0, 1) := by decide +kernel
theorem dX12_init_232 : decode cX12_init 232 = .ok (.sipush 138, 3) := by decide +kernel
theorem dX12_init_235 : decode cX12_init 235 = .ok (.newarray .int, 2) := by decide +kernel
theorem dX12_init_237 : decode cX12_init 237 = .ok (.putfield 96, 3) := by decide +kernel
theorem dX12_init_240 : decode cX12_init 240 = .ok (.aload_n 0, 1) := by decide +kernel
theorem dX12_init_241 : decode cX12_init 241 = .ok (.iconst (-1), 1) := by decide +kernel
theorem dX12_init_242 : decode cX12_init 242 = .ok (.putfield 99, 3) := by decide +kernel
theorem dX12_init_245 : decode cX12_init 245 = .ok (.aload_n 0, 1) := by decide +kernel
theorem dX12_init_246 : decode cX12_init 246 = .ok (.iconst (-1), 1) := by decide +kernel
theorem dX12_init_247 : decode cX12_init 247 = .ok (.putfield 102, 3) := by decide +kernel
theorem dX12_init_250 : decode cX12_init 250 = .ok (.aload_n 0, 1) := by decide +kernel
theorem dX12_init_251 : decode cX12_init 251 = .ok (.bipush 61, 2) := by decide +kernel
theorem dX12_init_253 : decode cX12_init 253 = .ok (.newarray .int, 2) := by decide +kernel
theorem dX12_init_255 : decode cX12_init 255 = .ok (.putfield 105, 3) := by decide +kernel
theorem dX12_init_258 : decode cX12_init 258 = .ok (.aload_n 0, 1) := by decide +kernel
theorem dX12_init_259 : decode cX12_init 259 = .ok (.bipush 6, 2) := by decide +kernel
theorem dX12_init_261 : decode cX12_init 261 = .ok (.newarray .int, 2) := by decide +kernel
theorem dX12_init_263 : decode cX12_init 263 = .ok (.putfield 108, 3) := by decide +kernel
theorem dX12_init_266 : decode cX12_init 266 = .ok (.aload_n 0, 1) := by decide +kernel
theorem dX12_init_267 : decode cX12_init 267 = .ok (.bipush 6, 2) := by decide +kernel
theorem dX12_init_269 : decode cX12_init 269 = .ok (.newarray .int, 2) := by decide +kernel
theorem dX12_init_271 : decode cX12_init 271 = .ok (.putfield 111, 3) := by decide +kernel
theorem dX12_init_274 : decode cX12_init 274 = .ok (.aload_n 0, 1) := by decide +kernel
theorem dX12_init_275 : decode cX12_init 275 = .ok (.sipush 3721, 3) := by decide +kernel
theorem dX12_init_278 : decode cX12_init 278 = .ok (.newarray .int, 2) := by decide +kernel
theorem dX12_init_280 : decode cX12_init 280 = .ok (.putfield 114, 3) := by decide +kernel
theorem dX12_init_283 : decode cX12_init 283 = .ok (.aload_n 0, 1) := by decide +kernel
theorem dX12_init_284 : decode cX12_init 284 = .ok (.iconst (-1), 1) := by decide +kernel
theorem dX12_init_285 : decode cX12_init 285 = .ok (.putfield 117, 3) := by decide +kernel
theorem dX12_init_288 : decode cX12_init 288 = .ok (.aload_n 0, 1) := by decide +kernel
theorem dX12_init_289 : decode cX12_init 289 = .ok (.bipush 24, 2) := by decide +kernel
theorem dX12_init_291 : decode cX12_init 291 = .ok (.newarray .int, 2) := by decide +kernel
theorem dX12_init_293 : decode cX12_init 293 = .ok (.putfield 120, 3) := by decide +kernel
theorem dX12_init_296 : decode cX12_init 296 = .ok (.aload_n 0, 1) := by decide +kernel
theorem dX12_init_297 : decode cX12_init 297 = .ok (.bipush 24, 2) := by decide +kernel
theorem dX12_init_299 : decode cX12_init 299 = .ok (.newarray .int, 2) := by decide +kernel
theorem dX12_init_301 : decode cX12_init 301 = .ok (.putfield 123, 3) := by decide +kernel
theorem dX12_init_304 : decode cX12_init 304 = .ok (.aload_n 0, 1) := by decide +kernel
theorem dX12_init_305 : decode cX12_init 305 = .ok (.bipush 24, 2) := by decide +kernel
theorem dX12_init_307 : decode cX12_init 307 = .ok (.newarray .int, 2) := by decide +kernel
theorem dX12_init_309 : decode cX12_init 309 = .ok (.putfield 126, 3) := by decide +kernel
theorem dX12_init_312 : decode cX12_init 312 = .ok (.aload_n 0, 1) := by decide +kernel
theorem dX12_init_313 : decode cX12_init 313 = .ok (.bipush 24, 2) := by decide +kernel
theorem dX12_init_315 : decode cX12_init 315 = .ok (.newarray .boolean, 2) := by decide +kernel
theorem dX12_init_317 : decode cX12_init 317 = .ok (.putfield 129, 3) := by decide +kernel
theorem dX12_init_320 : decode cX12_init 320 = .ok (.aload_n 0, 1) := by decide +kernel
theorem dX12_init_321 : decode cX12_init 321 = .ok (.bipush 24, 2) := by decide +kernel
theorem dX12_init_323 : decode cX12_init 323 = .ok (.newarray .int, 2) := by decide +kernel
theorem dX12_init_325 : decode cX12_init 325 = .ok (.putfield 133, 3) := by decide +kernel
theorem dX12_init_328 : decode cX12_init 328 = .ok (.aload_n 0, 1) := by decide +kernel
theorem dX12_init_329 : decode cX12_init 329 = .ok (.bipush 24, 2) := by decide +kernel
theorem dX12_init_331 : decode cX12_init 331 = .ok (.newarray .boolean, 2) := by decide +kernel
theorem dX12_init_333 : decode cX12_init 333 = .ok (.putfield 136, 3) := by decide +kernel
theorem dX12_init_336 : decode cX12_init 336 = .ok (.aload_n 0, 1) := by decide +kernel
theorem dX12_init_337 : decode cX12_init 337 = .ok (.bipush 30, 2) := by decide +kernel
theorem dX12_init_339 : decode cX12_init 339 = .ok (.newarray .int, 2) := by decide +kernel
theorem dX12_init_341 : decode cX12_init 341 = .ok (.putfield 139, 3) := by decide +kernel
theorem dX12_init_344 : decode cX12_init 344 = .ok (.aload_n 0, 1) := by decide +kernel
theorem dX12_init_345 : decode cX12_init 345 = .ok (.bipush 30, 2) := by decide +kernel
theorem dX12_init_347 : decode cX12_init 347 = .ok (.newarray .int, 2) := by decide +kernel
theorem dX12_init_349 : decode cX12_init 349 = .ok (.putfield 142, 3) := by decide +kernel
theorem dX12_init_352 : decode cX12_init 352 = .ok (.aload_n 0, 1) := by decide +kernel
theorem dX12_init_353 : decode cX12_init 353 = .ok (.invokevirtual 145, 3) := by decide +kernel
theorem dX12_init_356 : decode cX12_init 356 = .ok (.return_, 1) := by decide +kernel
theorem dX12_thrown_0 : decode cX12_thrown 0 = .ok (.aload_n 0, 1) := by decide +kernel
theorem dX12_thrown_1 : decode cX12_thrown 1 = .ok (.getfield 148, 3) := by decide +kernel
theorem dX12_thrown_4 : decode cX12_thrown 4 = .ok (.ireturn, 1) := by decide +kernel
theorem dX12_feed_0 : decode cX12_feed 0 = .ok (.aload_n 0, 1) := by decide +kernel
theorem dX12_feed_1 : decode cX12_feed 1 = .ok (.iconst 0, 1) := by decide +kernel
theorem dX12_feed_2 : decode cX12_feed 2 = .ok (.putfield 148, 3) := by decide +kernel
theorem dX12_feed_5 : decode cX12_feed 5 = .ok (.aload_n 0, 1) := by decide +kernel
theorem dX12_feed_6 : decode cX12_feed 6 = .ok (.getfield 151, 3) := by decide +kernel
theorem dX12_feed_9 : decode cX12_feed 9 = .ok (.sipush 680, 3) := by decide +kernel
theorem dX12_feed_12 : decode cX12_feed 12 = .ok (.if_icmp .le 5, 3) := by decide +kernel
theorem dX12_feed_15 : decode cX12_feed 15 = .ok (.iconst (-1), 1) := by decide +kernel
theorem dX12_feed_16 : decode cX12_feed 16 = .ok (.ireturn, 1) := by decide +kernel
theorem dX12_feed_17 : decode cX12_feed 17 = .ok (.iconst 0, 1) := by decide +kernel
theorem dX12_feed_18 : decode cX12_feed 18 = .ok (.istore 6, 2) := by decide +kernel
theorem dX12_feed_20 : decode cX12_feed 20 = .ok (.iload 6, 2) := by decide +kernel
theorem dX12_feed_22 : decode cX12_feed 22 = .ok (.bipush 20, 2) := by decide +kernel
theorem dX12_feed_24 : decode cX12_feed 24 = .ok (.if_icmp .ge 86, 3) := by decide +kernel
theorem dX12_feed_27 : decode cX12_feed 27 = .ok (.iload 6, 2) := by decide +kernel
theorem dX12_feed_29 : decode cX12_feed 29 = .ok (.iconst 4, 1) := by decide +kernel
theorem dX12_feed_30 : decode cX12_feed 30 = .ok (.if_icmp .ge 7, 3) := by decide +kernel
theorem dX12_feed_33 : decode cX12_feed 33 = .ok (.iload_n 1, 1) := by decide +kernel
theorem dX12_feed_34 : decode cX12_feed 34 = .ok (.goto 39, 3) := by decide +kernel
theorem dX12_feed_37 : decode cX12_feed 37 = .ok (.iload 6, 2) := by decide +kernel
theorem dX12_feed_39 : decode cX12_feed 39 = .ok (.bipush 8, 2) := by decide +kernel
theorem dX12_feed_41 : decode cX12_feed 41 = .ok (.if_icmp .ge 7, 3) := by decide +kernel
theorem dX12_feed_44 : decode cX12_feed 44 = .ok (.iload_n 2, 1) := by decide +kernel
theorem dX12_feed_45 : decode cX12_feed 45 = .ok (.goto 28, 3) := by decide +kernel
theorem dX12_feed_48 : decode cX12_feed 48 = .ok (.iload 6, 2) := by decide +kernel
theorem dX12_feed_50 : decode cX12_feed 50 = .ok (.bipush 12, 2) := by decide +kernel
theorem dX12_feed_52 : decode cX12_feed 52 = .ok (.if_icmp .ge 7, 3) := by decide +kernel
theorem dX12_feed_55 : decode cX12_feed 55 = .ok (.iload_n 3, 1) := by decide +kernel
theorem dX12_feed_56 : decode cX12_feed 56 = .ok (.goto 17, 3) := by decide +kernel
theorem dX12_feed_59 : decode cX12_feed 59 = .ok (.iload 6, 2) := by decide +kernel
theorem dX12_feed_61 : decode cX12_feed 61 = .ok (.bipush 16, 2) := by decide +kernel
theorem dX12_feed_63 : decode cX12_feed 63 = .ok (.if_icmp .ge 8, 3) := by decide +kernel
theorem dX12_feed_66 : decode cX12_feed 66 = .ok (.iload 4, 2) := by decide +kernel
theorem dX12_feed_68 : decode cX12_feed 68 = .ok (.goto 5, 3) := by decide +kernel
theorem dX12_feed_71 : decode cX12_feed 71 = .ok (.iload 5, 2) := by decide +kernel
theorem dX12_feed_73 : decode cX12_feed 73 = .ok (.istore 7, 2) := by decide +kernel
theorem dX12_feed_75 : decode cX12_feed 75 = .ok (.aload_n 0, 1) := by decide +kernel
theorem dX12_feed_76 : decode cX12_feed 76 = .ok (.getfield 7, 3) := by decide +kernel
theorem dX12_feed_79 : decode cX12_feed 79 = .ok (.aload_n 0, 1) := by decide +kernel
theorem dX12_feed_80 : decode cX12_feed 80 = .ok (.getfield 151, 3) := by decide +kernel
theorem dX12_feed_83 : decode cX12_feed 83 = .ok (.iload 6, 2) := by decide +kernel
theorem dX12_feed_85 : decode cX12_feed 85 = .ok (.iadd, 1) := by decide +kernel
theorem dX12_feed_86 : decode cX12_feed 86 = .ok (.iload 7, 2) := by decide +kernel
theorem dX12_feed_88 : decode cX12_feed 88 = .ok (.bipush 24, 2) := by decide +kernel
theorem dX12_feed_90 : decode cX12_feed 90 = .ok (.bipush 8, 2) := by decide +kernel
theorem dX12_feed_92 : decode cX12_feed 92 = .ok (.iload 6, 2) := by decide +kernel
theorem dX12_feed_94 : decode cX12_feed 94 = .ok (.iconst 4, 1) := by decide +kernel
theorem dX12_feed_95 : decode cX12_feed 95 = .ok (.irem, 1) := by decide +kernel
theorem dX12_feed_96 : decode cX12_feed 96 = .ok (.imul, 1) := by decide +kernel
theorem dX12_feed_97 : decode cX12_feed 97 = .ok (.isub, 1) := by decide +kernel
theorem dX12_feed_98 : decode cX12_feed 98 = .ok (.ishr, 1) := by decide +kernel
theorem dX12_feed_99 : decode cX12_feed 99 = .ok (.sipush 255, 3) := by decide +kernel
theorem dX12_feed_102 : decode cX12_feed 102 = .ok (.iand, 1) := by decide +kernel
theorem dX12_feed_103 : decode cX12_feed 103 = .ok (.iastore, 1) := by decide +kernel
theorem dX12_feed_104 : decode cX12_feed 104 = .ok (.iinc 6 1, 3) := by decide +kernel
theorem dX12_feed_107 : decode cX12_feed 107 = .ok (.goto (-87), 3) := by decide +kernel
theorem dX12_feed_110 : decode cX12_feed 110 = .ok (.aload_n 0, 1) := by decide +kernel
theorem dX12_feed_111 : decode cX12_feed 111 = .ok (.dup, 1) := by decide +kernel
theorem dX12_feed_112 : decode cX12_feed 112 = .ok (.getfield 151, 3) := by decide +kernel
theorem dX12_feed_115 : decode cX12_feed 115 = .ok (.bipush 20, 2) := by decide +kernel
theorem dX12_feed_117 : decode cX12_feed 117 = .ok (.iadd, 1) := by decide +kernel
theorem dX12_feed_118 : decode cX12_feed 118 = .ok (.putfield 151, 3) := by decide +kernel
theorem dX12_feed_121 : decode cX12_feed 121 = .ok (.aload_n 0, 1) := by decide +kernel
theorem dX12_feed_122 : decode cX12_feed 122 = .ok (.getfield 151, 3) := by decide +kernel
theorem dX12_feed_125 : decode cX12_feed 125 = .ok (.ireturn, 1) := by decide +kernel
theorem dX12_here_0 : decode cX12_here 0 = .ok (.aload_n 0, 1) := by decide +kernel
theorem dX12_here_1 : decode cX12_here 1 = .ok (.getfield 154, 3) := by decide +kernel
theorem dX12_here_4 : decode cX12_here 4 = .ok (.aload_n 0, 1) := by decide +kernel
theorem dX12_here_5 : decode cX12_here 5 = .ok (.getfield 157, 3) := by decide +kernel
theorem dX12_here_8 : decode cX12_here 8 = .ok (.if_icmp .ge 15, 3) := by decide +kernel
theorem dX12_here_11 : decode cX12_here 11 = .ok (.aload_n 0, 1) := by decide +kernel
theorem dX12_here_12 : decode cX12_here 12 = .ok (.getfield 7, 3) := by decide +kernel
theorem dX12_here_15 : decode cX12_here 15 = .ok (.aload_n 0, 1) := by decide +kernel
theorem dX12_here_16 : decode cX12_here 16 = .ok (.getfield 154, 3) := by decide +kernel
theorem dX12_here_19 : decode cX12_here 19 = .ok (.iaload, 1) := by decide +kernel
theorem dX12_here_20 : decode cX12_here 20 = .ok (.goto 4, 3) := by decide +kernel
theorem dX12_here_23 : decode cX12_here 23 = .ok (.iconst (-1), 1) := by decide +kernel
theorem dX12_here_24 : decode cX12_here 24 = .ok (.ireturn, 1) := by decide +kernel
theorem dX12_isSmall_0 : decode cX12_isSmall 0 = .ok (.iload_n 0, 1) := by decide +kernel
theorem dX12_isSmall_1 : decode cX12_isSmall 1 = .ok (.bipush 97, 2) := by decide +kernel
theorem dX12_isSmall_3 : decode cX12_isSmall 3 = .ok (.if_icmp .lt 13, 3) := by decide +kernel
theorem dX12_isSmall_6 : decode cX12_isSmall 6 = .ok (.iload_n 0, 1) := by decide +kernel
theorem dX12_isSmall_7 : decode cX12_isSmall 7 = .ok (.bipush 122, 2) := by decide +kernel
theorem dX12_isSmall_9 : decode cX12_isSmall 9 = .ok (.if_icmp .gt 7, 3) := by decide +kernel
theorem dX12_isSmall_12 : decode cX12_isSmall 12 = .ok (.iconst 1, 1) := by decide +kernel
theorem dX12_isSmall_13 : decode cX12_isSmall 13 = .ok (.goto 4, 3) := by decide +kernel
theorem dX12_isSmall_16 : decode cX12_isSmall 16 = .ok (.iconst 0, 1) := by decide +kernel
theorem dX12_isSmall_17 : decode cX12_isSmall 17 = .ok (.ireturn, 1) := by decide +kernel
theorem dX12_isDigit_0 : decode cX12_isDigit 0 = .ok (.iload_n 0, 1) := by decide +kernel
theorem dX12_isDigit_1 : decode cX12_isDigit 1 = .ok (.bipush 48, 2) := by decide +kernel
theorem dX12_isDigit_3 : decode cX12_isDigit 3 = .ok (.if_icmp .lt 13, 3) := by decide +kernel
theorem dX12_isDigit_6 : decode cX12_isDigit 6 = .ok (.iload_n 0, 1) := by decide +kernel
theorem dX12_isDigit_7 : decode cX12_isDigit 7 = .ok (.bipush 57, 2) := by decide +kernel
theorem dX12_isDigit_9 : decode cX12_isDigit 9 = .ok (.if_icmp .gt 7, 3) := by decide +kernel
theorem dX12_isDigit_12 : decode cX12_isDigit 12 = .ok (.iconst 1, 1) := by decide +kernel
theorem dX12_isDigit_13 : decode cX12_isDigit 13 = .ok (.goto 4, 3) := by decide +kernel
theorem dX12_isDigit_16 : decode cX12_isDigit 16 = .ok (.iconst 0, 1) := by decide +kernel
theorem dX12_isDigit_17 : decode cX12_isDigit 17 = .ok (.ireturn, 1) := by decide +kernel
theorem dX12_token_0 : decode cX12_token 0 = .ok (.aload_n 0, 1) := by decide +kernel
theorem dX12_token_1 : decode cX12_token 1 = .ok (.invokevirtual 160, 3) := by decide +kernel
theorem dX12_token_4 : decode cX12_token 4 = .ok (.bipush 10, 2) := by decide +kernel
theorem dX12_token_6 : decode cX12_token 6 = .ok (.if_icmp .eq 12, 3) := by decide +kernel
theorem dX12_token_9 : decode cX12_token 9 = .ok (.aload_n 0, 1) := by decide +kernel
theorem dX12_token_10 : decode cX12_token 10 = .ok (.invokevirtual 160, 3) := by decide +kernel
theorem dX12_token_13 : decode cX12_token 13 = .ok (.bipush 32, 2) := by decide +kernel
theorem dX12_token_15 : decode cX12_token 15 = .ok (.if_icmp .ne 16, 3) := by decide +kernel
theorem dX12_token_18 : decode cX12_token 18 = .ok (.aload_n 0, 1) := by decide +kernel
theorem dX12_token_19 : decode cX12_token 19 = .ok (.dup, 1) := by decide +kernel
theorem dX12_token_20 : decode cX12_token 20 = .ok (.getfield 154, 3) := by decide +kernel
theorem dX12_token_23 : decode cX12_token 23 = .ok (.iconst 1, 1) := by decide +kernel
theorem dX12_token_24 : decode cX12_token 24 = .ok (.iadd, 1) := by decide +kernel
theorem dX12_token_25 : decode cX12_token 25 = .ok (.putfield 154, 3) := by decide +kernel
theorem dX12_token_28 : decode cX12_token 28 = .ok (.goto (-28), 3) := by decide +kernel
theorem dX12_token_31 : decode cX12_token 31 = .ok (.aload_n 0, 1) := by decide +kernel
theorem dX12_token_32 : decode cX12_token 32 = .ok (.aload_n 0, 1) := by decide +kernel
theorem dX12_token_33 : decode cX12_token 33 = .ok (.getfield 154, 3) := by decide +kernel
theorem dX12_token_36 : decode cX12_token 36 = .ok (.putfield 164, 3) := by decide +kernel
theorem dX12_token_39 : decode cX12_token 39 = .ok (.aload_n 0, 1) := by decide +kernel
theorem dX12_token_40 : decode cX12_token 40 = .ok (.invokevirtual 160, 3) := by decide +kernel
theorem dX12_token_43 : decode cX12_token 43 = .ok (.istore_n 1, 1) := by decide +kernel
theorem dX12_token_44 : decode cX12_token 44 = .ok (.iload_n 1, 1) := by decide +kernel
theorem dX12_token_45 : decode cX12_token 45 = .ok (.iconst (-1), 1) := by decide +kernel
theorem dX12_token_46 : decode cX12_token 46 = .ok (.if_icmp .ne 11, 3) := by decide +kernel
theorem dX12_token_49 : decode cX12_token 49 = .ok (.aload_n 0, 1) := by decide +kernel
theorem dX12_token_50 : decode cX12_token 50 = .ok (.iconst 4, 1) := by decide +kernel
theorem dX12_token_51 : decode cX12_token 51 = .ok (.putfield 167, 3) := by decide +kernel
theorem dX12_token_54 : decode cX12_token 54 = .ok (.goto 171, 3) := by decide +kernel
theorem dX12_token_57 : decode cX12_token 57 = .ok (.iload_n 1, 1) := by decide +kernel
theorem dX12_token_58 : decode cX12_token 58 = .ok (.invokestatic 170, 3) := by decide +kernel
theorem dX12_token_61 : decode cX12_token 61 = .ok (.ifCond .eq 84, 3) := by decide +kernel
theorem dX12_token_64 : decode cX12_token 64 = .ok (.aload_n 0, 1) := by decide +kernel
theorem dX12_token_65 : decode cX12_token 65 = .ok (.invokevirtual 160, 3) := by decide +kernel
theorem dX12_token_68 : decode cX12_token 68 = .ok (.invokestatic 170, 3) := by decide +kernel
theorem dX12_token_71 : decode cX12_token 71 = .ok (.ifCond .eq 16, 3) := by decide +kernel
theorem dX12_token_74 : decode cX12_token 74 = .ok (.aload_n 0, 1) := by decide +kernel
theorem dX12_token_75 : decode cX12_token 75 = .ok (.dup, 1) := by decide +kernel
theorem dX12_token_76 : decode cX12_token 76 = .ok (.getfield 154, 3) := by decide +kernel
theorem dX12_token_79 : decode cX12_token 79 = .ok (.iconst 1, 1) := by decide +kernel
theorem dX12_token_80 : decode cX12_token 80 = .ok (.iadd, 1) := by decide +kernel
theorem dX12_token_81 : decode cX12_token 81 = .ok (.putfield 154, 3) := by decide +kernel
theorem dX12_token_84 : decode cX12_token 84 = .ok (.goto (-20), 3) := by decide +kernel
theorem dX12_token_87 : decode cX12_token 87 = .ok (.aload_n 0, 1) := by decide +kernel
theorem dX12_token_88 : decode cX12_token 88 = .ok (.aload_n 0, 1) := by decide +kernel
theorem dX12_token_89 : decode cX12_token 89 = .ok (.invokevirtual 174, 3) := by decide +kernel
theorem dX12_token_92 : decode cX12_token 92 = .ok (.putfield 177, 3) := by decide +kernel
theorem dX12_token_95 : decode cX12_token 95 = .ok (.aload_n 0, 1) := by decide +kernel
theorem dX12_token_96 : decode cX12_token 96 = .ok (.aload_n 0, 1) := by decide +kernel
theorem dX12_token_97 : decode cX12_token 97 = .ok (.getfield 177, 3) := by decide +kernel
theorem dX12_token_100 : decode cX12_token 100 = .ok (.iconst (-1), 1) := by decide +kernel
theorem dX12_token_101 : decode cX12_token 101 = .ok (.if_icmp .eq 7, 3) := by decide +kernel
theorem dX12_token_104 : decode cX12_token 104 = .ok (.iconst 0, 1) := by decide +kernel
theorem dX12_token_105 : decode cX12_token 105 = .ok (.goto 22, 3) := by decide +kernel
theorem dX12_token_108 : decode cX12_token 108 = .ok (.aload_n 0, 1) := by decide +kernel
theorem dX12_token_109 : decode cX12_token 109 = .ok (.getfield 154, 3) := by decide +kernel
theorem dX12_token_112 : decode cX12_token 112 = .ok (.aload_n 0, 1) := by decide +kernel
theorem dX12_token_113 : decode cX12_token 113 = .ok (.getfield 164, 3) := by decide +kernel
theorem dX12_token_116 : decode cX12_token 116 = .ok (.isub, 1) := by decide +kernel
theorem dX12_token_117 : decode cX12_token 117 = .ok (.bipush 6, 2) := by decide +kernel
theorem dX12_token_119 : decode cX12_token 119 = .ok (.if_icmp .le 7, 3) := by decide +kernel
theorem dX12_token_122 : decode cX12_token 122 = .ok (.iconst 5, 1) := by decide +kernel
theorem dX12_token_123 : decode cX12_token 123 = .ok (.goto 4, 3) := by decide +kernel
theorem dX12_token_126 : decode cX12_token 126 = .ok (.iconst 1, 1) := by decide +kernel
theorem dX12_token_127 : decode cX12_token 127 = .ok (.putfield 167, 3) := by decide +kernel
theorem dX12_token_130 : decode cX12_token 130 = .ok (.aload_n 0, 1) := by decide +kernel
theorem dX12_token_131 : decode cX12_token 131 = .ok (.getfield 167, 3) := by decide +kernel
theorem dX12_token_134 : decode cX12_token 134 = .ok (.iconst 1, 1) := by decide +kernel
theorem dX12_token_135 : decode cX12_token 135 = .ok (.if_icmp .ne 90, 3) := by decide +kernel
theorem dX12_token_138 : decode cX12_token 138 = .ok (.aload_n 0, 1) := by decide +kernel
theorem dX12_token_139 : decode cX12_token 139 = .ok (.invokevirtual 180, 3) := by decide +kernel
theorem dX12_token_142 : decode cX12_token 142 = .ok (.goto 83, 3) := by decide +kernel
theorem dX12_token_145 : decode cX12_token 145 = .ok (.iload_n 1, 1) := by decide +kernel
theorem dX12_token_146 : decode cX12_token 146 = .ok (.invokestatic 183, 3) := by decide +kernel
theorem dX12_token_149 : decode cX12_token 149 = .ok (.ifCond .eq 71, 3) := by decide +kernel
theorem dX12_token_152 : decode cX12_token 152 = .ok (.aload_n 0, 1) := by decide +kernel
theorem dX12_token_153 : decode cX12_token 153 = .ok (.iconst 2, 1) := by decide +kernel
theorem dX12_token_154 : decode cX12_token 154 = .ok (.putfield 167, 3) := by decide +kernel
theorem dX12_token_157 : decode cX12_token 157 = .ok (.aload_n 0, 1) := by decide +kernel
theorem dX12_token_158 : decode cX12_token 158 = .ok (.iconst 0, 1) := by decide +kernel
theorem dX12_token_159 : decode cX12_token 159 = .ok (.putfield 177, 3) := by decide +kernel
theorem dX12_token_162 : decode cX12_token 162 = .ok (.aload_n 0, 1) := by decide +kernel
theorem dX12_token_163 : decode cX12_token 163 = .ok (.invokevirtual 160, 3) := by decide +kernel
theorem dX12_token_166 : decode cX12_token 166 = .ok (.invokestatic 183, 3) := by decide +kernel
theorem dX12_token_169 : decode cX12_token 169 = .ok (.ifCond .eq 56, 3) := by decide +kernel
theorem dX12_token_172 : decode cX12_token 172 = .ok (.aload_n 0, 1) := by decide +kernel
theorem dX12_token_173 : decode cX12_token 173 = .ok (.aload_n 0, 1) := by decide +kernel
theorem dX12_token_174 : decode cX12_token 174 = .ok (.getfield 177, 3) := by decide +kernel
theorem dX12_token_177 : decode cX12_token 177 = .ok (.ldc 186, 2) := by decide +kernel
theorem dX12_token_179 : decode cX12_token 179 = .ok (.if_icmp .le 10, 3) := by decide +kernel
theorem dX12_token_182 : decode cX12_token 182 = .ok (.aload_n 0, 1) := by decide +kernel
theorem dX12_token_183 : decode cX12_token 183 = .ok (.getfield 177, 3) := by decide +kernel
theorem dX12_token_186 : decode cX12_token 186 = .ok (.goto 18, 3) := by decide +kernel
theorem dX12_token_189 : decode cX12_token 189 = .ok (.bipush 10, 2) := by decide +kernel
theorem dX12_token_191 : decode cX12_token 191 = .ok (.aload_n 0, 1) := by decide +kernel
theorem dX12_token_192 : decode cX12_token 192 = .ok (.getfield 177, 3) := by decide +kernel
theorem dX12_token_195 : decode cX12_token 195 = .ok (.imul, 1) := by decide +kernel
theorem dX12_token_196 : decode cX12_token 196 = .ok (.aload_n 0, 1) := by decide +kernel
theorem dX12_token_197 : decode cX12_token 197 = .ok (.invokevirtual 160, 3) := by decide +kernel
theorem dX12_token_200 : decode cX12_token 200 = .ok (.iadd, 1) := by decide +kernel
theorem dX12_token_201 : decode cX12_token 201 = .ok (.bipush 48, 2) := by decide +kernel
theorem dX12_token_203 : decode cX12_token 203 = .ok (.isub, 1) := by decide +kernel
theorem dX12_token_204 : decode cX12_token 204 = .ok (.putfield 177, 3) := by decide +kernel
theorem dX12_token_207 : decode cX12_token 207 = .ok (.aload_n 0, 1) := by decide +kernel
theorem dX12_token_208 : decode cX12_token 208 = .ok (.dup, 1) := by decide +kernel
theorem dX12_token_209 : decode cX12_token 209 = .ok (.getfield 154, 3) := by decide +kernel
theorem dX12_token_212 : decode cX12_token 212 = .ok (.iconst 1, 1) := by decide +kernel
theorem dX12_token_213 : decode cX12_token 213 = .ok (.iadd, 1) := by decide +kernel
theorem dX12_token_214 : decode cX12_token 214 = .ok (.putfield 154, 3) := by decide +kernel
theorem dX12_token_217 : decode cX12_token 217 = .ok (.goto (-55), 3) := by decide +kernel
theorem dX12_token_220 : decode cX12_token 220 = .ok (.aload_n 0, 1) := by decide +kernel
theorem dX12_token_221 : decode cX12_token 221 = .ok (.iload_n 1, 1) := by decide +kernel
theorem dX12_token_222 : decode cX12_token 222 = .ok (.invokevirtual 187, 3) := by decide +kernel
theorem dX12_token_225 : decode cX12_token 225 = .ok (.return_, 1) := by decide +kernel
theorem dX12_sign_0 : decode cX12_sign 0 = .ok (.aload_n 0, 1) := by decide +kernel
theorem dX12_sign_1 : decode cX12_sign 1 = .ok (.dup, 1) := by decide +kernel
theorem dX12_sign_2 : decode cX12_sign 2 = .ok (.getfield 154, 3) := by decide +kernel
theorem dX12_sign_5 : decode cX12_sign 5 = .ok (.iconst 1, 1) := by decide +kernel
theorem dX12_sign_6 : decode cX12_sign 6 = .ok (.iadd, 1) := by decide +kernel
theorem dX12_sign_7 : decode cX12_sign 7 = .ok (.putfield 154, 3) := by decide +kernel
theorem dX12_sign_10 : decode cX12_sign 10 = .ok (.aload_n 0, 1) := by decide +kernel
theorem dX12_sign_11 : decode cX12_sign 11 = .ok (.iload_n 1, 1) := by decide +kernel
theorem dX12_sign_12 : decode cX12_sign 12 = .ok (.bipush 59, 2) := by decide +kernel
theorem dX12_sign_14 : decode cX12_sign 14 = .ok (.if_icmp .eq 57, 3) := by decide +kernel
theorem dX12_sign_17 : decode cX12_sign 17 = .ok (.iload_n 1, 1) := by decide +kernel
theorem dX12_sign_18 : decode cX12_sign 18 = .ok (.bipush 40, 2) := by decide +kernel
theorem dX12_sign_20 : decode cX12_sign 20 = .ok (.if_icmp .eq 51, 3) := by decide +kernel
theorem dX12_sign_23 : decode cX12_sign 23 = .ok (.iload_n 1, 1) := by decide +kernel
theorem dX12_sign_24 : decode cX12_sign 24 = .ok (.bipush 41, 2) := by decide +kernel
theorem dX12_sign_26 : decode cX12_sign 26 = .ok (.if_icmp .eq 45, 3) := by decide +kernel
theorem dX12_sign_29 : decode cX12_sign 29 = .ok (.iload_n 1, 1) := by decide +kernel
theorem dX12_sign_30 : decode cX12_sign 30 = .ok (.bipush 43, 2) := by decide +kernel
theorem dX12_sign_32 : decode cX12_sign 32 = .ok (.if_icmp .eq 39, 3) := by decide +kernel
theorem dX12_sign_35 : decode cX12_sign 35 = .ok (.iload_n 1, 1) := by decide +kernel
theorem dX12_sign_36 : decode cX12_sign 36 = .ok (.bipush 45, 2) := by decide +kernel
theorem dX12_sign_38 : decode cX12_sign 38 = .ok (.if_icmp .eq 33, 3) := by decide +kernel
theorem dX12_sign_41 : decode cX12_sign 41 = .ok (.iload_n 1, 1) := by decide +kernel
theorem dX12_sign_42 : decode cX12_sign 42 = .ok (.bipush 42, 2) := by decide +kernel
theorem dX12_sign_44 : decode cX12_sign 44 = .ok (.if_icmp .eq 27, 3) := by decide +kernel
theorem dX12_sign_47 : decode cX12_sign 47 = .ok (.iload_n 1, 1) := by decide +kernel
theorem dX12_sign_48 : decode cX12_sign 48 = .ok (.bipush 47, 2) := by decide +kernel
theorem dX12_sign_50 : decode cX12_sign 50 = .ok (.if_icmp .eq 21, 3) := by decide +kernel
theorem dX12_sign_53 : decode cX12_sign 53 = .ok (.iload_n 1, 1) := by decide +kernel
theorem dX12_sign_54 : decode cX12_sign 54 = .ok (.bipush 60, 2) := by decide +kernel
theorem dX12_sign_56 : decode cX12_sign 56 = .ok (.if_icmp .eq 15, 3) := by decide +kernel
theorem dX12_sign_59 : decode cX12_sign 59 = .ok (.iload_n 1, 1) := by decide +kernel
theorem dX12_sign_60 : decode cX12_sign 60 = .ok (.bipush 61, 2) := by decide +kernel
theorem dX12_sign_62 : decode cX12_sign 62 = .ok (.if_icmp .eq 9, 3) := by decide +kernel
theorem dX12_sign_65 : decode cX12_sign 65 = .ok (.iload_n 1, 1) := by decide +kernel
theorem dX12_sign_66 : decode cX12_sign 66 = .ok (.bipush 62, 2) := by decide +kernel
theorem dX12_sign_68 : decode cX12_sign 68 = .ok (.if_icmp .ne 7, 3) := by decide +kernel
theorem dX12_sign_71 : decode cX12_sign 71 = .ok (.iconst 3, 1) := by decide +kernel
theorem dX12_sign_72 : decode cX12_sign 72 = .ok (.goto 4, 3) := by decide +kernel
theorem dX12_sign_75 : decode cX12_sign 75 = .ok (.iconst 5, 1) := by decide +kernel
theorem dX12_sign_76 : decode cX12_sign 76 = .ok (.putfield 167, 3) := by decide +kernel
theorem dX12_sign_79 : decode cX12_sign 79 = .ok (.aload_n 0, 1) := by decide +kernel
theorem dX12_sign_80 : decode cX12_sign 80 = .ok (.iload_n 1, 1) := by decide +kernel
theorem dX12_sign_81 : decode cX12_sign 81 = .ok (.putfield 177, 3) := by decide +kernel
theorem dX12_sign_84 : decode cX12_sign 84 = .ok (.iload_n 1, 1) := by decide +kernel
theorem dX12_sign_85 : decode cX12_sign 85 = .ok (.bipush 60, 2) := by decide +kernel
theorem dX12_sign_87 : decode cX12_sign 87 = .ok (.if_icmp .ne 19, 3) := by decide +kernel
theorem dX12_sign_90 : decode cX12_sign 90 = .ok (.aload_n 0, 1) := by decide +kernel
theorem dX12_sign_91 : decode cX12_sign 91 = .ok (.invokevirtual 160, 3) := by decide +kernel
theorem dX12_sign_94 : decode cX12_sign 94 = .ok (.bipush 61, 2) := by decide +kernel
theorem dX12_sign_96 : decode cX12_sign 96 = .ok (.if_icmp .ne 10, 3) := by decide +kernel
theorem dX12_sign_99 : decode cX12_sign 99 = .ok (.aload_n 0, 1) := by decide +kernel
theorem dX12_sign_100 : decode cX12_sign 100 = .ok (.sipush 256, 3) := by decide +kernel
theorem dX12_sign_103 : decode cX12_sign 103 = .ok (.putfield 177, 3) := by decide +kernel
theorem dX12_sign_106 : decode cX12_sign 106 = .ok (.iload_n 1, 1) := by decide +kernel
theorem dX12_sign_107 : decode cX12_sign 107 = .ok (.bipush 60, 2) := by decide +kernel
theorem dX12_sign_109 : decode cX12_sign 109 = .ok (.if_icmp .ne 19, 3) := by decide +kernel
theorem dX12_sign_112 : decode cX12_sign 112 = .ok (.aload_n 0, 1) := by decide +kernel
theorem dX12_sign_113 : decode cX12_sign 113 = .ok (.invokevirtual 160, 3) := by decide +kernel
theorem dX12_sign_116 : decode cX12_sign 116 = .ok (.bipush 62, 2) := by decide +kernel
theorem dX12_sign_118 : decode cX12_sign 118 = .ok (.if_icmp .ne 10, 3) := by decide +kernel
theorem dX12_sign_121 : decode cX12_sign 121 = .ok (.aload_n 0, 1) := by decide +kernel
theorem dX12_sign_122 : decode cX12_sign 122 = .ok (.sipush 257, 3) := by decide +kernel
theorem dX12_sign_125 : decode cX12_sign 125 = .ok (.putfield 177, 3) := by decide +kernel
theorem dX12_sign_128 : decode cX12_sign 128 = .ok (.iload_n 1, 1) := by decide +kernel
theorem dX12_sign_129 : decode cX12_sign 129 = .ok (.bipush 62, 2) := by decide +kernel
theorem dX12_sign_131 : decode cX12_sign 131 = .ok (.if_icmp .ne 19, 3) := by decide +kernel
theorem dX12_sign_134 : decode cX12_sign 134 = .ok (.aload_n 0, 1) := by decide +kernel
theorem dX12_sign_135 : decode cX12_sign 135 = .ok (.invokevirtual 160, 3) := by decide +kernel
theorem dX12_sign_138 : decode cX12_sign 138 = .ok (.bipush 61, 2) := by decide +kernel
theorem dX12_sign_140 : decode cX12_sign 140 = .ok (.if_icmp .ne 10, 3) := by decide +kernel
theorem dX12_sign_143 : decode cX12_sign 143 = .ok (.aload_n 0, 1) := by decide +kernel
theorem dX12_sign_144 : decode cX12_sign 144 = .ok (.sipush 258, 3) := by decide +kernel
theorem dX12_sign_147 : decode cX12_sign 147 = .ok (.putfield 177, 3) := by decide +kernel
theorem dX12_sign_150 : decode cX12_sign 150 = .ok (.aload_n 0, 1) := by decide +kernel
theorem dX12_sign_151 : decode cX12_sign 151 = .ok (.getfield 177, 3) := by decide +kernel
theorem dX12_sign_154 : decode cX12_sign 154 = .ok (.sipush 256, 3) := by decide +kernel
theorem dX12_sign_157 : decode cX12_sign 157 = .ok (.if_icmp .lt 13, 3) := by decide +kernel
theorem dX12_sign_160 : decode cX12_sign 160 = .ok (.aload_n 0, 1) := by decide +kernel
theorem dX12_sign_161 : decode cX12_sign 161 = .ok (.dup, 1) := by decide +kernel
theorem dX12_sign_162 : decode cX12_sign 162 = .ok (.getfield 154, 3) := by decide +kernel
theorem dX12_sign_165 : decode cX12_sign 165 = .ok (.iconst 1, 1) := by decide +kernel
theorem dX12_sign_166 : decode cX12_sign 166 = .ok (.iadd, 1) := by decide +kernel
theorem dX12_sign_167 : decode cX12_sign 167 = .ok (.putfield 154, 3) := by decide +kernel
theorem dX12_sign_170 : decode cX12_sign 170 = .ok (.return_, 1) := by decide +kernel
theorem dX12_word_0 : decode cX12_word 0 = .ok (.iconst 0, 1) := by decide +kernel
theorem dX12_word_1 : decode cX12_word 1 = .ok (.istore_n 1, 1) := by decide +kernel
theorem dX12_word_2 : decode cX12_word 2 = .ok (.iconst 0, 1) := by decide +kernel
theorem dX12_word_3 : decode cX12_word 3 = .ok (.istore_n 2, 1) := by decide +kernel
theorem dX12_word_4 : decode cX12_word 4 = .ok (.iload_n 2, 1) := by decide +kernel
theorem dX12_word_5 : decode cX12_word 5 = .ok (.ldc 191, 2) := by decide +kernel
theorem dX12_word_7 : decode cX12_word 7 = .ok (.invokevirtual 193, 3) := by decide +kernel
theorem dX12_word_10 : decode cX12_word 10 = .ok (.if_icmp .ge 113, 3) := by decide +kernel
theorem dX12_word_13 : decode cX12_word 13 = .ok (.iconst 0, 1) := by decide +kernel
theorem dX12_word_14 : decode cX12_word 14 = .ok (.istore_n 3, 1) := by decide +kernel
theorem dX12_word_15 : decode cX12_word 15 = .ok (.ldc 191, 2) := by decide +kernel
theorem dX12_word_17 : decode cX12_word 17 = .ok (.iload_n 2, 1) := by decide +kernel
theorem dX12_word_18 : decode cX12_word 18 = .ok (.iload_n 3, 1) := by decide +kernel
theorem dX12_word_19 : decode cX12_word 19 = .ok (.iadd, 1) := by decide +kernel
theorem dX12_word_20 : decode cX12_word 20 = .ok (.invokevirtual 198, 3) := by decide +kernel
theorem dX12_word_23 : decode cX12_word 23 = .ok (.bipush 32, 2) := by decide +kernel
theorem dX12_word_25 : decode cX12_word 25 = .ok (.if_icmp .eq 44, 3) := by decide +kernel
theorem dX12_word_28 : decode cX12_word 28 = .ok (.aload_n 0, 1) := by decide +kernel
theorem dX12_word_29 : decode cX12_word 29 = .ok (.getfield 164, 3) := by decide +kernel
theorem dX12_word_32 : decode cX12_word 32 = .ok (.iload_n 3, 1) := by decide +kernel
theorem dX12_word_33 : decode cX12_word 33 = .ok (.iadd, 1) := by decide +kernel
theorem dX12_word_34 : decode cX12_word 34 = .ok (.aload_n 0, 1) := by decide +kernel
theorem dX12_word_35 : decode cX12_word 35 = .ok (.getfield 154, 3) := by decide +kernel
theorem dX12_word_38 : decode cX12_word 38 = .ok (.if_icmp .ge 31, 3) := by decide +kernel
theorem dX12_word_41 : decode cX12_word 41 = .ok (.aload_n 0, 1) := by decide +kernel
theorem dX12_word_42 : decode cX12_word 42 = .ok (.getfield 7, 3) := by decide +kernel
theorem dX12_word_45 : decode cX12_word 45 = .ok (.aload_n 0, 1) := by decide +kernel
theorem dX12_word_46 : decode cX12_word 46 = .ok (.getfield 164, 3) := by decide +kernel
theorem dX12_word_49 : decode cX12_word 49 = .ok (.iload_n 3, 1) := by decide +kernel
theorem dX12_word_50 : decode cX12_word 50 = .ok (.iadd, 1) := by decide +kernel
theorem dX12_word_51 : decode cX12_word 51 = .ok (.iaload, 1) := by decide +kernel
theorem dX12_word_52 : decode cX12_word 52 = .ok (.ldc 191, 2) := by decide +kernel
theorem dX12_word_54 : decode cX12_word 54 = .ok (.iload_n 2, 1) := by decide +kernel
theorem dX12_word_55 : decode cX12_word 55 = .ok (.iload_n 3, 1) := by decide +kernel
theorem dX12_word_56 : decode cX12_word 56 = .ok (.iadd, 1) := by decide +kernel
theorem dX12_word_57 : decode cX12_word 57 = .ok (.invokevirtual 198, 3) := by decide +kernel
theorem dX12_word_60 : decode cX12_word 60 = .ok (.if_icmp .ne 9, 3) := by decide +kernel
theorem dX12_word_63 : decode cX12_word 63 = .ok (.iinc 3 1, 3) := by decide +kernel
theorem dX12_word_66 : decode cX12_word 66 = .ok (.goto (-51), 3) := by decide +kernel
theorem dX12_word_69 : decode cX12_word 69 = .ok (.ldc 191, 2) := by decide +kernel
theorem dX12_word_71 : decode cX12_word 71 = .ok (.iload_n 2, 1) := by decide +kernel
theorem dX12_word_72 : decode cX12_word 72 = .ok (.iload_n 3, 1) := by decide +kernel
theorem dX12_word_73 : decode cX12_word 73 = .ok (.iadd, 1) := by decide +kernel
theorem dX12_word_74 : decode cX12_word 74 = .ok (.invokevirtual 198, 3) := by decide +kernel
theorem dX12_word_77 : decode cX12_word 77 = .ok (.bipush 32, 2) := by decide +kernel
theorem dX12_word_79 : decode cX12_word 79 = .ok (.if_icmp .ne 18, 3) := by decide +kernel
theorem dX12_word_82 : decode cX12_word 82 = .ok (.aload_n 0, 1) := by decide +kernel
theorem dX12_word_83 : decode cX12_word 83 = .ok (.getfield 164, 3) := by decide +kernel
theorem dX12_word_86 : decode cX12_word 86 = .ok (.iload_n 3, 1) := by decide +kernel
theorem dX12_word_87 : decode cX12_word 87 = .ok (.iadd, 1) := by decide +kernel
theorem dX12_word_88 : decode cX12_word 88 = .ok (.aload_n 0, 1) := by decide +kernel
theorem dX12_word_89 : decode cX12_word 89 = .ok (.getfield 154, 3) := by decide +kernel
theorem dX12_word_92 : decode cX12_word 92 = .ok (.if_icmp .ne 5, 3) := by decide +kernel
theorem dX12_word_95 : decode cX12_word 95 = .ok (.iload_n 1, 1) := by decide +kernel
theorem dX12_word_96 : decode cX12_word 96 = .ok (.ireturn, 1) := by decide +kernel
theorem dX12_word_97 : decode cX12_word 97 = .ok (.ldc 191, 2) := by decide +kernel
theorem dX12_word_99 : decode cX12_word 99 = .ok (.iload_n 2, 1) := by decide +kernel
theorem dX12_word_100 : decode cX12_word 100 = .ok (.invokevirtual 198, 3) := by decide +kernel
theorem dX12_word_103 : decode cX12_word 103 = .ok (.bipush 32, 2) := by decide +kernel
theorem dX12_word_105 : decode cX12_word 105 = .ok (.if_icmp .eq 9, 3) := by decide +kernel
theorem dX12_word_108 : decode cX12_word 108 = .ok (.iinc 2 1, 3) := by decide +kernel
theorem dX12_word_111 : decode cX12_word 111 = .ok (.goto (-14), 3) := by decide +kernel
theorem dX12_word_114 : decode cX12_word 114 = .ok (.iinc 2 1, 3) := by decide +kernel
theorem dX12_word_117 : decode cX12_word 117 = .ok (.iinc 1 1, 3) := by decide +kernel
theorem dX12_word_120 : decode cX12_word 120 = .ok (.goto (-116), 3) := by decide +kernel
theorem dX12_word_123 : decode cX12_word 123 = .ok (.iconst (-1), 1) := by decide +kernel
theorem dX12_word_124 : decode cX12_word 124 = .ok (.ireturn, 1) := by decide +kernel
theorem dX12_name_0 : decode cX12_name 0 = .ok (.aload_n 0, 1) := by decide +kernel
theorem dX12_name_1 : decode cX12_name 1 = .ok (.iconst 0, 1) := by decide +kernel
theorem dX12_name_2 : decode cX12_name 2 = .ok (.putfield 177, 3) := by decide +kernel
theorem dX12_name_5 : decode cX12_name 5 = .ok (.iconst 0, 1) := by decide +kernel
theorem dX12_name_6 : decode cX12_name 6 = .ok (.istore_n 1, 1) := by decide +kernel
theorem dX12_name_7 : decode cX12_name 7 = .ok (.iload_n 1, 1) := by decide +kernel
theorem dX12_name_8 : decode cX12_name 8 = .ok (.bipush 6, 2) := by decide +kernel
theorem dX12_name_10 : decode cX12_name 10 = .ok (.if_icmp .ge 53, 3) := by decide +kernel
theorem dX12_name_13 : decode cX12_name 13 = .ok (.aload_n 0, 1) := by decide +kernel
theorem dX12_name_14 : decode cX12_name 14 = .ok (.aload_n 0, 1) := by decide +kernel
theorem dX12_name_15 : decode cX12_name 15 = .ok (.getfield 177, 3) := by decide +kernel
theorem dX12_name_18 : decode cX12_name 18 = .ok (.iconst 5, 1) := by decide +kernel
theorem dX12_name_19 : decode cX12_name 19 = .ok (.ishl, 1) := by decide +kernel
theorem dX12_name_20 : decode cX12_name 20 = .ok (.aload_n 0, 1) := by decide +kernel
theorem dX12_name_21 : decode cX12_name 21 = .ok (.getfield 164, 3) := by decide +kernel
theorem dX12_name_24 : decode cX12_name 24 = .ok (.iload_n 1, 1) := by decide +kernel
theorem dX12_name_25 : decode cX12_name 25 = .ok (.iadd, 1) := by decide +kernel
theorem dX12_name_26 : decode cX12_name 26 = .ok (.aload_n 0, 1) := by decide +kernel
theorem dX12_name_27 : decode cX12_name 27 = .ok (.getfield 154, 3) := by decide +kernel
theorem dX12_name_30 : decode cX12_name 30 = .ok (.if_icmp .ge 22, 3) := by decide +kernel
theorem dX12_name_33 : decode cX12_name 33 = .ok (.aload_n 0, 1) := by decide +kernel
theorem dX12_name_34 : decode cX12_name 34 = .ok (.getfield 7, 3) := by decide +kernel
theorem dX12_name_37 : decode cX12_name 37 = .ok (.aload_n 0, 1) := by decide +kernel
theorem dX12_name_38 : decode cX12_name 38 = .ok (.getfield 164, 3) := by decide +kernel
theorem dX12_name_41 : decode cX12_name 41 = .ok (.iload_n 1, 1) := by decide +kernel
theorem dX12_name_42 : decode cX12_name 42 = .ok (.iadd, 1) := by decide +kernel
theorem dX12_name_43 : decode cX12_name 43 = .ok (.iaload, 1) := by decide +kernel
theorem dX12_name_44 : decode cX12_name 44 = .ok (.bipush 97, 2) := by decide +kernel
theorem dX12_name_46 : decode cX12_name 46 = .ok (.isub, 1) := by decide +kernel
theorem dX12_name_47 : decode cX12_name 47 = .ok (.iconst 1, 1) := by decide +kernel
theorem dX12_name_48 : decode cX12_name 48 = .ok (.iadd, 1) := by decide +kernel
theorem dX12_name_49 : decode cX12_name 49 = .ok (.goto 4, 3) := by decide +kernel
theorem dX12_name_52 : decode cX12_name 52 = .ok (.iconst 0, 1) := by decide +kernel
theorem dX12_name_53 : decode cX12_name 53 = .ok (.ior, 1) := by decide +kernel
theorem dX12_name_54 : decode cX12_name 54 = .ok (.putfield 177, 3) := by decide +kernel
theorem dX12_name_57 : decode cX12_name 57 = .ok (.iinc 1 1, 3) := by decide +kernel
theorem dX12_name_60 : decode cX12_name 60 = .ok (.goto (-53), 3) := by decide +kernel
theorem dX12_name_63 : decode cX12_name 63 = .ok (.return_, 1) := by decide +kernel
