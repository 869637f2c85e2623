theorem dX0_init_0 : decode cX0_init 0 = .ok (.aload_n 0, 1) := by decide +kernel
theorem dX0_init_1 : decode cX0_init 1 = .ok (.invokespecial 3, 3) := by decide +kernel
theorem dX0_init_4 : decode cX0_init 4 = .ok (.aload_n 0, 1) := by decide +kernel
theorem dX0_init_5 : decode cX0_init 5 = .ok (.iload_n 1, 1) := by decide +kernel
theorem dX0_init_6 : decode cX0_init 6 = .ok (.putfield 9, 3) := by decide +kernel
theorem dX0_init_9 : decode cX0_init 9 = .ok (.aload_n 0, 1) := by decide +kernel
theorem dX0_init_10 : decode cX0_init 10 = .ok (.iload_n 1, 1) := by decide +kernel
theorem dX0_init_11 : decode cX0_init 11 = .ok (.newarray .int, 2) := by decide +kernel
theorem dX0_init_13 : decode cX0_init 13 = .ok (.putfield 15, 3) := by decide +kernel
theorem dX0_init_16 : decode cX0_init 16 = .ok (.aload_n 0, 1) := by decide +kernel
theorem dX0_init_17 : decode cX0_init 17 = .ok (.iload_n 1, 1) := by decide +kernel
theorem dX0_init_18 : decode cX0_init 18 = .ok (.newarray .int, 2) := by decide +kernel
theorem dX0_init_20 : decode cX0_init 20 = .ok (.putfield 19, 3) := by decide +kernel
theorem dX0_init_23 : decode cX0_init 23 = .ok (.aload_n 0, 1) := by decide +kernel
theorem dX0_init_24 : decode cX0_init 24 = .ok (.iload_n 1, 1) := by decide +kernel
theorem dX0_init_25 : decode cX0_init 25 = .ok (.newarray .int, 2) := by decide +kernel
theorem dX0_init_27 : decode cX0_init 27 = .ok (.putfield 22, 3) := by decide +kernel
theorem dX0_init_30 : decode cX0_init 30 = .ok (.aload_n 0, 1) := by decide +kernel
theorem dX0_init_31 : decode cX0_init 31 = .ok (.iload_n 1, 1) := by decide +kernel
theorem dX0_init_32 : decode cX0_init 32 = .ok (.newarray .int, 2) := by decide +kernel
theorem dX0_init_34 : decode cX0_init 34 = .ok (.putfield 25, 3) := by decide +kernel
theorem dX0_init_37 : decode cX0_init 37 = .ok (.aload_n 0, 1) := by decide +kernel
theorem dX0_init_38 : decode cX0_init 38 = .ok (.iload_n 1, 1) := by decide +kernel
theorem dX0_init_39 : decode cX0_init 39 = .ok (.newarray .int, 2) := by decide +kernel
theorem dX0_init_41 : decode cX0_init 41 = .ok (.putfield 28, 3) := by decide +kernel
theorem dX0_init_44 : decode cX0_init 44 = .ok (.return_, 1) := by decide +kernel
theorem dX0_begin_0 : decode cX0_begin 0 = .ok (.aload_n 0, 1) := by decide +kernel
theorem dX0_begin_1 : decode cX0_begin 1 = .ok (.iload_n 3, 1) := by decide +kernel
theorem dX0_begin_2 : decode cX0_begin 2 = .ok (.putfield 31, 3) := by decide +kernel
theorem dX0_begin_5 : decode cX0_begin 5 = .ok (.iconst 0, 1) := by decide +kernel
theorem dX0_begin_6 : decode cX0_begin 6 = .ok (.istore 4, 2) := by decide +kernel
theorem dX0_begin_8 : decode cX0_begin 8 = .ok (.iload 4, 2) := by decide +kernel
theorem dX0_begin_10 : decode cX0_begin 10 = .ok (.aload_n 0, 1) := by decide +kernel
theorem dX0_begin_11 : decode cX0_begin 11 = .ok (.getfield 9, 3) := by decide +kernel
theorem dX0_begin_14 : decode cX0_begin 14 = .ok (.if_icmp .ge 81, 3) := by decide +kernel
theorem dX0_begin_17 : decode cX0_begin 17 = .ok (.aload_n 0, 1) := by decide +kernel
theorem dX0_begin_18 : decode cX0_begin 18 = .ok (.getfield 15, 3) := by decide +kernel
theorem dX0_begin_21 : decode cX0_begin 21 = .ok (.iload 4, 2) := by decide +kernel
theorem dX0_begin_23 : decode cX0_begin 23 = .ok (.iload_n 2, 1) := by decide +kernel
theorem dX0_begin_24 : decode cX0_begin 24 = .ok (.ifCond .eq 7, 3) := by decide +kernel
theorem dX0_begin_27 : decode cX0_begin 27 = .ok (.iconst 0, 1) := by decide +kernel
theorem dX0_begin_28 : decode cX0_begin 28 = .ok (.goto 9, 3) := by decide +kernel
theorem dX0_begin_31 : decode cX0_begin 31 = .ok (.aload_n 1, 1) := by decide +kernel
theorem dX0_begin_32 : decode cX0_begin 32 = .ok (.iload 4, 2) := by decide +kernel
theorem dX0_begin_34 : decode cX0_begin 34 = .ok (.invokevirtual 35, 3) := by decide +kernel
theorem dX0_begin_37 : decode cX0_begin 37 = .ok (.iastore, 1) := by decide +kernel
theorem dX0_begin_38 : decode cX0_begin 38 = .ok (.aload_n 0, 1) := by decide +kernel
theorem dX0_begin_39 : decode cX0_begin 39 = .ok (.getfield 19, 3) := by decide +kernel
theorem dX0_begin_42 : decode cX0_begin 42 = .ok (.iload 4, 2) := by decide +kernel
theorem dX0_begin_44 : decode cX0_begin 44 = .ok (.iload_n 2, 1) := by decide +kernel
theorem dX0_begin_45 : decode cX0_begin 45 = .ok (.ifCond .eq 7, 3) := by decide +kernel
theorem dX0_begin_48 : decode cX0_begin 48 = .ok (.iconst 0, 1) := by decide +kernel
theorem dX0_begin_49 : decode cX0_begin 49 = .ok (.goto 9, 3) := by decide +kernel
theorem dX0_begin_52 : decode cX0_begin 52 = .ok (.aload_n 1, 1) := by decide +kernel
theorem dX0_begin_53 : decode cX0_begin 53 = .ok (.iload 4, 2) := by decide +kernel
theorem dX0_begin_55 : decode cX0_begin 55 = .ok (.invokevirtual 39, 3) := by decide +kernel
theorem dX0_begin_58 : decode cX0_begin 58 = .ok (.iastore, 1) := by decide +kernel
theorem dX0_begin_59 : decode cX0_begin 59 = .ok (.aload_n 0, 1) := by decide +kernel
theorem dX0_begin_60 : decode cX0_begin 60 = .ok (.getfield 22, 3) := by decide +kernel
theorem dX0_begin_63 : decode cX0_begin 63 = .ok (.iload 4, 2) := by decide +kernel
theorem dX0_begin_65 : decode cX0_begin 65 = .ok (.aload_n 0, 1) := by decide +kernel
theorem dX0_begin_66 : decode cX0_begin 66 = .ok (.getfield 15, 3) := by decide +kernel
theorem dX0_begin_69 : decode cX0_begin 69 = .ok (.iload 4, 2) := by decide +kernel
theorem dX0_begin_71 : decode cX0_begin 71 = .ok (.iaload, 1) := by decide +kernel
theorem dX0_begin_72 : decode cX0_begin 72 = .ok (.iastore, 1) := by decide +kernel
theorem dX0_begin_73 : decode cX0_begin 73 = .ok (.aload_n 0, 1) := by decide +kernel
theorem dX0_begin_74 : decode cX0_begin 74 = .ok (.getfield 25, 3) := by decide +kernel
theorem dX0_begin_77 : decode cX0_begin 77 = .ok (.iload 4, 2) := by decide +kernel
theorem dX0_begin_79 : decode cX0_begin 79 = .ok (.iconst 0, 1) := by decide +kernel
theorem dX0_begin_80 : decode cX0_begin 80 = .ok (.iastore, 1) := by decide +kernel
theorem dX0_begin_81 : decode cX0_begin 81 = .ok (.aload_n 0, 1) := by decide +kernel
theorem dX0_begin_82 : decode cX0_begin 82 = .ok (.getfield 28, 3) := by decide +kernel
theorem dX0_begin_85 : decode cX0_begin 85 = .ok (.iload 4, 2) := by decide +kernel
theorem dX0_begin_87 : decode cX0_begin 87 = .ok (.iconst 0, 1) := by decide +kernel
theorem dX0_begin_88 : decode cX0_begin 88 = .ok (.iastore, 1) := by decide +kernel
theorem dX0_begin_89 : decode cX0_begin 89 = .ok (.iinc 4 1, 3) := by decide +kernel
theorem dX0_begin_92 : decode cX0_begin 92 = .ok (.goto (-84), 3) := by decide +kernel
theorem dX0_begin_95 : decode cX0_begin 95 = .ok (.return_, 1) := by decide +kernel
theorem dX0_colourAt_0 : decode cX0_colourAt 0 = .ok (.aload_n 0, 1) := by decide +kernel
theorem dX0_colourAt_1 : decode cX0_colourAt 1 = .ok (.getfield 22, 3) := by decide +kernel
theorem dX0_colourAt_4 : decode cX0_colourAt 4 = .ok (.iload_n 1, 1) := by decide +kernel
theorem dX0_colourAt_5 : decode cX0_colourAt 5 = .ok (.iaload, 1) := by decide +kernel
theorem dX0_colourAt_6 : decode cX0_colourAt 6 = .ok (.ireturn, 1) := by decide +kernel
theorem dX0_ownAlpha_0 : decode cX0_ownAlpha 0 = .ok (.aload_n 0, 1) := by decide +kernel
theorem dX0_ownAlpha_1 : decode cX0_ownAlpha 1 = .ok (.getfield 25, 3) := by decide +kernel
theorem dX0_ownAlpha_4 : decode cX0_ownAlpha 4 = .ok (.iload_n 1, 1) := by decide +kernel
theorem dX0_ownAlpha_5 : decode cX0_ownAlpha 5 = .ok (.iaload, 1) := by decide +kernel
theorem dX0_ownAlpha_6 : decode cX0_ownAlpha 6 = .ok (.ireturn, 1) := by decide +kernel
theorem dX0_shapeAt_0 : decode cX0_shapeAt 0 = .ok (.aload_n 0, 1) := by decide +kernel
theorem dX0_shapeAt_1 : decode cX0_shapeAt 1 = .ok (.getfield 28, 3) := by decide +kernel
theorem dX0_shapeAt_4 : decode cX0_shapeAt 4 = .ok (.iload_n 1, 1) := by decide +kernel
theorem dX0_shapeAt_5 : decode cX0_shapeAt 5 = .ok (.iaload, 1) := by decide +kernel
theorem dX0_shapeAt_6 : decode cX0_shapeAt 6 = .ok (.ireturn, 1) := by decide +kernel
theorem dX0_wholeAlpha_0 : decode cX0_wholeAlpha 0 = .ok (.aload_n 0, 1) := by decide +kernel
theorem dX0_wholeAlpha_1 : decode cX0_wholeAlpha 1 = .ok (.getfield 19, 3) := by decide +kernel
theorem dX0_wholeAlpha_4 : decode cX0_wholeAlpha 4 = .ok (.iload_n 1, 1) := by decide +kernel
theorem dX0_wholeAlpha_5 : decode cX0_wholeAlpha 5 = .ok (.iaload, 1) := by decide +kernel
theorem dX0_wholeAlpha_6 : decode cX0_wholeAlpha 6 = .ok (.aload_n 0, 1) := by decide +kernel
theorem dX0_wholeAlpha_7 : decode cX0_wholeAlpha 7 = .ok (.getfield 25, 3) := by decide +kernel
theorem dX0_wholeAlpha_10 : decode cX0_wholeAlpha 10 = .ok (.iload_n 1, 1) := by decide +kernel
theorem dX0_wholeAlpha_11 : decode cX0_wholeAlpha 11 = .ok (.iaload, 1) := by decide +kernel
theorem dX0_wholeAlpha_12 : decode cX0_wholeAlpha 12 = .ok (.invokestatic 42, 3) := by decide +kernel
theorem dX0_wholeAlpha_15 : decode cX0_wholeAlpha 15 = .ok (.ireturn, 1) := by decide +kernel
theorem dX0_put_0 : decode cX0_put 0 = .ok (.iload_n 3, 1) := by decide +kernel
theorem dX0_put_1 : decode cX0_put 1 = .ok (.ifCond .ne 4, 3) := by decide +kernel
theorem dX0_put_4 : decode cX0_put 4 = .ok (.return_, 1) := by decide +kernel
theorem dX0_put_5 : decode cX0_put 5 = .ok (.aload_n 0, 1) := by decide +kernel
theorem dX0_put_6 : decode cX0_put 6 = .ok (.iload_n 1, 1) := by decide +kernel
theorem dX0_put_7 : decode cX0_put 7 = .ok (.invokevirtual 39, 3) := by decide +kernel
theorem dX0_put_10 : decode cX0_put 10 = .ok (.istore 7, 2) := by decide +kernel
theorem dX0_put_12 : decode cX0_put 12 = .ok (.aload_n 0, 1) := by decide +kernel
theorem dX0_put_13 : decode cX0_put 13 = .ok (.getfield 31, 3) := by decide +kernel
theorem dX0_put_16 : decode cX0_put 16 = .ok (.ifCond .eq 12, 3) := by decide +kernel
theorem dX0_put_19 : decode cX0_put 19 = .ok (.aload_n 0, 1) := by decide +kernel
theorem dX0_put_20 : decode cX0_put 20 = .ok (.getfield 15, 3) := by decide +kernel
theorem dX0_put_23 : decode cX0_put 23 = .ok (.iload_n 1, 1) := by decide +kernel
theorem dX0_put_24 : decode cX0_put 24 = .ok (.iaload, 1) := by decide +kernel
theorem dX0_put_25 : decode cX0_put 25 = .ok (.goto 9, 3) := by decide +kernel
theorem dX0_put_28 : decode cX0_put 28 = .ok (.aload_n 0, 1) := by decide +kernel
theorem dX0_put_29 : decode cX0_put 29 = .ok (.getfield 22, 3) := by decide +kernel
theorem dX0_put_32 : decode cX0_put 32 = .ok (.iload_n 1, 1) := by decide +kernel
theorem dX0_put_33 : decode cX0_put 33 = .ok (.iaload, 1) := by decide +kernel
theorem dX0_put_34 : decode cX0_put 34 = .ok (.istore 8, 2) := by decide +kernel
theorem dX0_put_36 : decode cX0_put 36 = .ok (.aload_n 0, 1) := by decide +kernel
theorem dX0_put_37 : decode cX0_put 37 = .ok (.getfield 31, 3) := by decide +kernel
theorem dX0_put_40 : decode cX0_put 40 = .ok (.ifCond .eq 12, 3) := by decide +kernel
theorem dX0_put_43 : decode cX0_put 43 = .ok (.aload_n 0, 1) := by decide +kernel
theorem dX0_put_44 : decode cX0_put 44 = .ok (.getfield 19, 3) := by decide +kernel
theorem dX0_put_47 : decode cX0_put 47 = .ok (.iload_n 1, 1) := by decide +kernel
theorem dX0_put_48 : decode cX0_put 48 = .ok (.iaload, 1) := by decide +kernel
theorem dX0_put_49 : decode cX0_put 49 = .ok (.goto 5, 3) := by decide +kernel
theorem dX0_put_52 : decode cX0_put 52 = .ok (.iload 7, 2) := by decide +kernel
theorem dX0_put_54 : decode cX0_put 54 = .ok (.istore 9, 2) := by decide +kernel
theorem dX0_put_56 : decode cX0_put 56 = .ok (.aload_n 0, 1) := by decide +kernel
theorem dX0_put_57 : decode cX0_put 57 = .ok (.getfield 31, 3) := by decide +kernel
theorem dX0_put_60 : decode cX0_put 60 = .ok (.ifCond .eq 7, 3) := by decide +kernel
theorem dX0_put_63 : decode cX0_put 63 = .ok (.iconst 0, 1) := by decide +kernel
theorem dX0_put_64 : decode cX0_put 64 = .ok (.goto 9, 3) := by decide +kernel
theorem dX0_put_67 : decode cX0_put 67 = .ok (.aload_n 0, 1) := by decide +kernel
theorem dX0_put_68 : decode cX0_put 68 = .ok (.getfield 25, 3) := by decide +kernel
theorem dX0_put_71 : decode cX0_put 71 = .ok (.iload_n 1, 1) := by decide +kernel
theorem dX0_put_72 : decode cX0_put 72 = .ok (.iaload, 1) := by decide +kernel
theorem dX0_put_73 : decode cX0_put 73 = .ok (.istore 10, 2) := by decide +kernel
theorem dX0_put_75 : decode cX0_put 75 = .ok (.aload_n 0, 1) := by decide +kernel
theorem dX0_put_76 : decode cX0_put 76 = .ok (.getfield 25, 3) := by decide +kernel
theorem dX0_put_79 : decode cX0_put 79 = .ok (.iload_n 1, 1) := by decide +kernel
theorem dX0_put_80 : decode cX0_put 80 = .ok (.sipush 255, 3) := by decide +kernel
theorem dX0_put_83 : decode cX0_put 83 = .ok (.iload_n 3, 1) := by decide +kernel
theorem dX0_put_84 : decode cX0_put 84 = .ok (.isub, 1) := by decide +kernel
theorem dX0_put_85 : decode cX0_put 85 = .ok (.aload_n 0, 1) := by decide +kernel
theorem dX0_put_86 : decode cX0_put 86 = .ok (.getfield 25, 3) := by decide +kernel
theorem dX0_put_89 : decode cX0_put 89 = .ok (.iload_n 1, 1) := by decide +kernel
theorem dX0_put_90 : decode cX0_put 90 = .ok (.iaload, 1) := by decide +kernel
theorem dX0_put_91 : decode cX0_put 91 = .ok (.imul, 1) := by decide +kernel
theorem dX0_put_92 : decode cX0_put 92 = .ok (.iload_n 3, 1) := by decide +kernel
theorem dX0_put_93 : decode cX0_put 93 = .ok (.iload 4, 2) := by decide +kernel
theorem dX0_put_95 : decode cX0_put 95 = .ok (.isub, 1) := by decide +kernel
theorem dX0_put_96 : decode cX0_put 96 = .ok (.iload 10, 2) := by decide +kernel
theorem dX0_put_98 : decode cX0_put 98 = .ok (.imul, 1) := by decide +kernel
theorem dX0_put_99 : decode cX0_put 99 = .ok (.iadd, 1) := by decide +kernel
theorem dX0_put_100 : decode cX0_put 100 = .ok (.sipush 255, 3) := by decide +kernel
theorem dX0_put_103 : decode cX0_put 103 = .ok (.iload 4, 2) := by decide +kernel
theorem dX0_put_105 : decode cX0_put 105 = .ok (.imul, 1) := by decide +kernel
theorem dX0_put_106 : decode cX0_put 106 = .ok (.iadd, 1) := by decide +kernel
theorem dX0_put_107 : decode cX0_put 107 = .ok (.bipush 127, 2) := by decide +kernel
theorem dX0_put_109 : decode cX0_put 109 = .ok (.iadd, 1) := by decide +kernel
theorem dX0_put_110 : decode cX0_put 110 = .ok (.sipush 255, 3) := by decide +kernel
theorem dX0_put_113 : decode cX0_put 113 = .ok (.idiv, 1) := by decide +kernel
theorem dX0_put_114 : decode cX0_put 114 = .ok (.iastore, 1) := by decide +kernel
theorem dX0_put_115 : decode cX0_put 115 = .ok (.aload_n 0, 1) := by decide +kernel
theorem dX0_put_116 : decode cX0_put 116 = .ok (.getfield 28, 3) := by decide +kernel
theorem dX0_put_119 : decode cX0_put 119 = .ok (.iload_n 1, 1) := by decide +kernel
theorem dX0_put_120 : decode cX0_put 120 = .ok (.aload_n 0, 1) := by decide +kernel
theorem dX0_put_121 : decode cX0_put 121 = .ok (.getfield 28, 3) := by decide +kernel
theorem dX0_put_124 : decode cX0_put 124 = .ok (.iload_n 1, 1) := by decide +kernel
theorem dX0_put_125 : decode cX0_put 125 = .ok (.iaload, 1) := by decide +kernel
theorem dX0_put_126 : decode cX0_put 126 = .ok (.iload_n 3, 1) := by decide +kernel
theorem dX0_put_127 : decode cX0_put 127 = .ok (.invokestatic 42, 3) := by decide +kernel
theorem dX0_put_130 : decode cX0_put 130 = .ok (.iastore, 1) := by decide +kernel
theorem dX0_put_131 : decode cX0_put 131 = .ok (.aload_n 0, 1) := by decide +kernel
theorem dX0_put_132 : decode cX0_put 132 = .ok (.iload_n 1, 1) := by decide +kernel
theorem dX0_put_133 : decode cX0_put 133 = .ok (.invokevirtual 39, 3) := by decide +kernel
theorem dX0_put_136 : decode cX0_put 136 = .ok (.istore 11, 2) := by decide +kernel
theorem dX0_put_138 : decode cX0_put 138 = .ok (.iload 11, 2) := by decide +kernel
theorem dX0_put_140 : decode cX0_put 140 = .ok (.ifCond .ne 4, 3) := by decide +kernel
theorem dX0_put_143 : decode cX0_put 143 = .ok (.return_, 1) := by decide +kernel
theorem dX0_put_144 : decode cX0_put 144 = .ok (.iload 5, 2) := by decide +kernel
theorem dX0_put_146 : decode cX0_put 146 = .ok (.iload 8, 2) := by decide +kernel
theorem dX0_put_148 : decode cX0_put 148 = .ok (.iload_n 2, 1) := by decide +kernel
theorem dX0_put_149 : decode cX0_put 149 = .ok (.invokestatic 48, 3) := by decide +kernel
theorem dX0_put_152 : decode cX0_put 152 = .ok (.istore 12, 2) := by decide +kernel
theorem dX0_put_154 : decode cX0_put 154 = .ok (.iconst 0, 1) := by decide +kernel
theorem dX0_put_155 : decode cX0_put 155 = .ok (.istore 13, 2) := by decide +kernel
theorem dX0_put_157 : decode cX0_put 157 = .ok (.iconst 0, 1) := by decide +kernel
theorem dX0_put_158 : decode cX0_put 158 = .ok (.istore 14, 2) := by decide +kernel
theorem dX0_put_160 : decode cX0_put 160 = .ok (.iload 14, 2) := by decide +kernel
theorem dX0_put_162 : decode cX0_put 162 = .ok (.iconst 3, 1) := by decide +kernel
theorem dX0_put_163 : decode cX0_put 163 = .ok (.if_icmp .ge 137, 3) := by decide +kernel
theorem dX0_put_166 : decode cX0_put 166 = .ok (.iload 8, 2) := by decide +kernel
theorem dX0_put_168 : decode cX0_put 168 = .ok (.iload 14, 2) := by decide +kernel
theorem dX0_put_170 : decode cX0_put 170 = .ok (.invokestatic 54, 3) := by decide +kernel
theorem dX0_put_173 : decode cX0_put 173 = .ok (.istore 15, 2) := by decide +kernel
theorem dX0_put_175 : decode cX0_put 175 = .ok (.iload 6, 2) := by decide +kernel
theorem dX0_put_177 : decode cX0_put 177 = .ok (.iload 14, 2) := by decide +kernel
theorem dX0_put_179 : decode cX0_put 179 = .ok (.ishr, 1) := by decide +kernel
theorem dX0_put_180 : decode cX0_put 180 = .ok (.iconst 1, 1) := by decide +kernel
theorem dX0_put_181 : decode cX0_put 181 = .ok (.iand, 1) := by decide +kernel
theorem dX0_put_182 : decode cX0_put 182 = .ok (.iconst 1, 1) := by decide +kernel
theorem dX0_put_183 : decode cX0_put 183 = .ok (.if_icmp .ne 7, 3) := by decide +kernel
theorem dX0_put_186 : decode cX0_put 186 = .ok (.iconst 1, 1) := by decide +kernel
theorem dX0_put_187 : decode cX0_put 187 = .ok (.goto 4, 3) := by decide +kernel
theorem dX0_put_190 : decode cX0_put 190 = .ok (.iconst 0, 1) := by decide +kernel
theorem dX0_put_191 : decode cX0_put 191 = .ok (.istore 16, 2) := by decide +kernel
theorem dX0_put_193 : decode cX0_put 193 = .ok (.iload 16, 2) := by decide +kernel
theorem dX0_put_195 : decode cX0_put 195 = .ok (.ifCond .eq 12, 3) := by decide +kernel
theorem dX0_put_198 : decode cX0_put 198 = .ok (.sipush 255, 3) := by decide +kernel
theorem dX0_put_201 : decode cX0_put 201 = .ok (.iload 15, 2) := by decide +kernel
theorem dX0_put_203 : decode cX0_put 203 = .ok (.imul, 1) := by decide +kernel
theorem dX0_put_204 : decode cX0_put 204 = .ok (.goto 27, 3) := by decide +kernel
theorem dX0_put_207 : decode cX0_put 207 = .ok (.sipush 255, 3) := by decide +kernel
theorem dX0_put_210 : decode cX0_put 210 = .ok (.iload 9, 2) := by decide +kernel
theorem dX0_put_212 : decode cX0_put 212 = .ok (.isub, 1) := by decide +kernel
theorem dX0_put_213 : decode cX0_put 213 = .ok (.iload_n 2, 1) := by decide +kernel
theorem dX0_put_214 : decode cX0_put 214 = .ok (.iload 14, 2) := by decide +kernel
theorem dX0_put_216 : decode cX0_put 216 = .ok (.invokestatic 54, 3) := by decide +kernel
theorem dX0_put_219 : decode cX0_put 219 = .ok (.imul, 1) := by decide +kernel
theorem dX0_put_220 : decode cX0_put 220 = .ok (.iload 9, 2) := by decide +kernel
theorem dX0_put_222 : decode cX0_put 222 = .ok (.iload 12, 2) := by decide +kernel
theorem dX0_put_224 : decode cX0_put 224 = .ok (.iload 14, 2) := by decide +kernel
theorem dX0_put_226 : decode cX0_put 226 = .ok (.invokestatic 54, 3) := by decide +kernel
theorem dX0_put_229 : decode cX0_put 229 = .ok (.imul, 1) := by decide +kernel
theorem dX0_put_230 : decode cX0_put 230 = .ok (.iadd, 1) := by decide +kernel
theorem dX0_put_231 : decode cX0_put 231 = .ok (.istore 17, 2) := by decide +kernel
theorem dX0_put_233 : decode cX0_put 233 = .ok (.sipush 255, 3) := by decide +kernel
theorem dX0_put_236 : decode cX0_put 236 = .ok (.iload_n 3, 1) := by decide +kernel
theorem dX0_put_237 : decode cX0_put 237 = .ok (.isub, 1) := by decide +kernel
theorem dX0_put_238 : decode cX0_put 238 = .ok (.iload 7, 2) := by decide +kernel
theorem dX0_put_240 : decode cX0_put 240 = .ok (.imul, 1) := by decide +kernel
theorem dX0_put_241 : decode cX0_put 241 = .ok (.aload_n 0, 1) := by decide +kernel
theorem dX0_put_242 : decode cX0_put 242 = .ok (.getfield 22, 3) := by decide +kernel
theorem dX0_put_245 : decode cX0_put 245 = .ok (.iload_n 1, 1) := by decide +kernel
theorem dX0_put_246 : decode cX0_put 246 = .ok (.iaload, 1) := by decide +kernel
theorem dX0_put_247 : decode cX0_put 247 = .ok (.iload 14, 2) := by decide +kernel
theorem dX0_put_249 : decode cX0_put 249 = .ok (.invokestatic 54, 3) := by decide +kernel
theorem dX0_put_252 : decode cX0_put 252 = .ok (.imul, 1) := by decide +kernel
theorem dX0_put_253 : decode cX0_put 253 = .ok (.iload_n 3, 1) := by decide +kernel
theorem dX0_put_254 : decode cX0_put 254 = .ok (.iload 4, 2) := by decide +kernel
theorem dX0_put_256 : decode cX0_put 256 = .ok (.isub, 1) := by decide +kernel
theorem dX0_put_257 : decode cX0_put 257 = .ok (.iload 9, 2) := by decide +kernel
theorem dX0_put_259 : decode cX0_put 259 = .ok (.imul, 1) := by decide +kernel
theorem dX0_put_260 : decode cX0_put 260 = .ok (.iload 15, 2) := by decide +kernel
theorem dX0_put_262 : decode cX0_put 262 = .ok (.imul, 1) := by decide +kernel
theorem dX0_put_263 : decode cX0_put 263 = .ok (.iadd, 1) := by decide +kernel
theorem dX0_put_264 : decode cX0_put 264 = .ok (.iload 4, 2) := by decide +kernel
theorem dX0_put_266 : decode cX0_put 266 = .ok (.iload 17, 2) := by decide +kernel
theorem dX0_put_268 : decode cX0_put 268 = .ok (.imul, 1) := by decide +kernel
theorem dX0_put_269 : decode cX0_put 269 = .ok (.iadd, 1) := by decide +kernel
theorem dX0_put_270 : decode cX0_put 270 = .ok (.istore 18, 2) := by decide +kernel
theorem dX0_put_272 : decode cX0_put 272 = .ok (.iload 13, 2) := by decide +kernel
theorem dX0_put_274 : decode cX0_put 274 = .ok (.iload 18, 2) := by decide +kernel
theorem dX0_put_276 : decode cX0_put 276 = .ok (.sipush 255, 3) := by decide +kernel
theorem dX0_put_279 : decode cX0_put 279 = .ok (.iload 11, 2) := by decide +kernel
theorem dX0_put_281 : decode cX0_put 281 = .ok (.imul, 1) := by decide +kernel
theorem dX0_put_282 : decode cX0_put 282 = .ok (.invokestatic 57, 3) := by decide +kernel
theorem dX0_put_285 : decode cX0_put 285 = .ok (.bipush 8, 2) := by decide +kernel
theorem dX0_put_287 : decode cX0_put 287 = .ok (.iload 14, 2) := by decide +kernel
theorem dX0_put_289 : decode cX0_put 289 = .ok (.imul, 1) := by decide +kernel
theorem dX0_put_290 : decode cX0_put 290 = .ok (.ishl, 1) := by decide +kernel
theorem dX0_put_291 : decode cX0_put 291 = .ok (.ior, 1) := by decide +kernel
theorem dX0_put_292 : decode cX0_put 292 = .ok (.istore 13, 2) := by decide +kernel
theorem dX0_put_294 : decode cX0_put 294 = .ok (.iinc 14 1, 3) := by decide +kernel
theorem dX0_put_297 : decode cX0_put 297 = .ok (.goto (-137), 3) := by decide +kernel
theorem dX0_put_300 : decode cX0_put 300 = .ok (.aload_n 0, 1) := by decide +kernel
theorem dX0_put_301 : decode cX0_put 301 = .ok (.getfield 22, 3) := by decide +kernel
theorem dX0_put_304 : decode cX0_put 304 = .ok (.iload_n 1, 1) := by decide +kernel
theorem dX0_put_305 : decode cX0_put 305 = .ok (.iload 13, 2) := by decide +kernel
theorem dX0_put_307 : decode cX0_put 307 = .ok (.iastore, 1) := by decide +kernel
theorem dX0_put_308 : decode cX0_put 308 = .ok (.return_, 1) := by decide +kernel
theorem dX0_result_0 : decode cX0_result 0 = .ok (.aload_n 0, 1) := by decide +kernel
theorem dX0_result_1 : decode cX0_result 1 = .ok (.iload_n 1, 1) := by decide +kernel
theorem dX0_result_2 : decode cX0_result 2 = .ok (.iconst 0, 1) := by decide +kernel
theorem dX0_result_3 : decode cX0_result 3 = .ok (.invokevirtual 60, 3) := by decide +kernel
theorem dX0_result_6 : decode cX0_result 6 = .ok (.aload_n 0, 1) := by decide +kernel
theorem dX0_result_7 : decode cX0_result 7 = .ok (.iload_n 1, 1) := by decide +kernel
theorem dX0_result_8 : decode cX0_result 8 = .ok (.iconst 1, 1) := by decide +kernel
theorem dX0_result_9 : decode cX0_result 9 = .ok (.invokevirtual 60, 3) := by decide +kernel
theorem dX0_result_12 : decode cX0_result 12 = .ok (.aload_n 0, 1) := by decide +kernel
theorem dX0_result_13 : decode cX0_result 13 = .ok (.iload_n 1, 1) := by decide +kernel
theorem dX0_result_14 : decode cX0_result 14 = .ok (.iconst 2, 1) := by decide +kernel
theorem dX0_result_15 : decode cX0_result 15 = .ok (.invokevirtual 60, 3) := by decide +kernel
theorem dX0_result_18 : decode cX0_result 18 = .ok (.invokestatic 63, 3) := by decide +kernel
theorem dX0_result_21 : decode cX0_result 21 = .ok (.ireturn, 1) := by decide +kernel
theorem dX0_resultBand_0 : decode cX0_resultBand 0 = .ok (.aload_n 0, 1) := by decide +kernel
theorem dX0_resultBand_1 : decode cX0_resultBand 1 = .ok (.getfield 25, 3) := by decide +kernel
theorem dX0_resultBand_4 : decode cX0_resultBand 4 = .ok (.iload_n 1, 1) := by decide +kernel
theorem dX0_resultBand_5 : decode cX0_resultBand 5 = .ok (.iaload, 1) := by decide +kernel
theorem dX0_resultBand_6 : decode cX0_resultBand 6 = .ok (.istore_n 3, 1) := by decide +kernel
theorem dX0_resultBand_7 : decode cX0_resultBand 7 = .ok (.iload_n 3, 1) := by decide +kernel
theorem dX0_resultBand_8 : decode cX0_resultBand 8 = .ok (.ifCond .gt 5, 3) := by decide +kernel
theorem dX0_resultBand_11 : decode cX0_resultBand 11 = .ok (.iconst 0, 1) := by decide +kernel
theorem dX0_resultBand_12 : decode cX0_resultBand 12 = .ok (.ireturn, 1) := by decide +kernel
theorem dX0_resultBand_13 : decode cX0_resultBand 13 = .ok (.aload_n 0, 1) := by decide +kernel
theorem dX0_resultBand_14 : decode cX0_resultBand 14 = .ok (.getfield 22, 3) := by decide +kernel
theorem dX0_resultBand_17 : decode cX0_resultBand 17 = .ok (.iload_n 1, 1) := by decide +kernel
theorem dX0_resultBand_18 : decode cX0_resultBand 18 = .ok (.iaload, 1) := by decide +kernel
theorem dX0_resultBand_19 : decode cX0_resultBand 19 = .ok (.iload_n 2, 1) := by decide +kernel
theorem dX0_resultBand_20 : decode cX0_resultBand 20 = .ok (.invokestatic 54, 3) := by decide +kernel
theorem dX0_resultBand_23 : decode cX0_resultBand 23 = .ok (.istore 4, 2) := by decide +kernel
theorem dX0_resultBand_25 : decode cX0_resultBand 25 = .ok (.iload 4, 2) := by decide +kernel
theorem dX0_resultBand_27 : decode cX0_resultBand 27 = .ok (.aload_n 0, 1) := by decide +kernel
theorem dX0_resultBand_28 : decode cX0_resultBand 28 = .ok (.getfield 15, 3) := by decide +kernel
theorem dX0_resultBand_31 : decode cX0_resultBand 31 = .ok (.iload_n 1, 1) := by decide +kernel
theorem dX0_resultBand_32 : decode cX0_resultBand 32 = .ok (.iaload, 1) := by decide +kernel
theorem dX0_resultBand_33 : decode cX0_resultBand 33 = .ok (.iload_n 2, 1) := by decide +kernel
theorem dX0_resultBand_34 : decode cX0_resultBand 34 = .ok (.invokestatic 54, 3) := by decide +kernel
theorem dX0_resultBand_37 : decode cX0_resultBand 37 = .ok (.isub, 1) := by decide +kernel
theorem dX0_resultBand_38 : decode cX0_resultBand 38 = .ok (.istore 5, 2) := by decide +kernel
theorem dX0_resultBand_40 : decode cX0_resultBand 40 = .ok (.iload 4, 2) := by decide +kernel
theorem dX0_resultBand_42 : decode cX0_resultBand 42 = .ok (.iload 5, 2) := by decide +kernel
theorem dX0_resultBand_44 : decode cX0_resultBand 44 = .ok (.aload_n 0, 1) := by decide +kernel
theorem dX0_resultBand_45 : decode cX0_resultBand 45 = .ok (.getfield 19, 3) := by decide +kernel
theorem dX0_resultBand_48 : decode cX0_resultBand 48 = .ok (.iload_n 1, 1) := by decide +kernel
theorem dX0_resultBand_49 : decode cX0_resultBand 49 = .ok (.iaload, 1) := by decide +kernel
theorem dX0_resultBand_50 : decode cX0_resultBand 50 = .ok (.sipush 255, 3) := by decide +kernel
theorem dX0_resultBand_53 : decode cX0_resultBand 53 = .ok (.iload_n 3, 1) := by decide +kernel
theorem dX0_resultBand_54 : decode cX0_resultBand 54 = .ok (.isub, 1) := by decide +kernel
theorem dX0_resultBand_55 : decode cX0_resultBand 55 = .ok (.imul, 1) := by decide +kernel
theorem dX0_resultBand_56 : decode cX0_resultBand 56 = .ok (.imul, 1) := by decide +kernel
theorem dX0_resultBand_57 : decode cX0_resultBand 57 = .ok (.sipush 255, 3) := by decide +kernel
theorem dX0_resultBand_60 : decode cX0_resultBand 60 = .ok (.iload_n 3, 1) := by decide +kernel
theorem dX0_resultBand_61 : decode cX0_resultBand 61 = .ok (.imul, 1) := by decide +kernel
theorem dX0_resultBand_62 : decode cX0_resultBand 62 = .ok (.idiv, 1) := by decide +kernel
theorem dX0_resultBand_63 : decode cX0_resultBand 63 = .ok (.iadd, 1) := by decide +kernel
theorem dX0_resultBand_64 : decode cX0_resultBand 64 = .ok (.invokestatic 66, 3) := by decide +kernel
theorem dX0_resultBand_67 : decode cX0_resultBand 67 = .ok (.ireturn, 1) := by decide +kernel
theorem dX0_resultLum_0 : decode cX0_resultLum 0 = .ok (.aload_n 0, 1) := by decide +kernel
theorem dX0_resultLum_1 : decode cX0_resultLum 1 = .ok (.iload_n 1, 1) := by decide +kernel
theorem dX0_resultLum_2 : decode cX0_resultLum 2 = .ok (.invokevirtual 69, 3) := by decide +kernel
theorem dX0_resultLum_5 : decode cX0_resultLum 5 = .ok (.istore_n 2, 1) := by decide +kernel
theorem dX0_resultLum_6 : decode cX0_resultLum 6 = .ok (.aload_n 0, 1) := by decide +kernel
theorem dX0_resultLum_7 : decode cX0_resultLum 7 = .ok (.getfield 25, 3) := by decide +kernel
theorem dX0_resultLum_10 : decode cX0_resultLum 10 = .ok (.iload_n 1, 1) := by decide +kernel
theorem dX0_resultLum_11 : decode cX0_resultLum 11 = .ok (.iaload, 1) := by decide +kernel
theorem dX0_resultLum_12 : decode cX0_resultLum 12 = .ok (.istore_n 3, 1) := by decide +kernel
theorem dX0_resultLum_13 : decode cX0_resultLum 13 = .ok (.iload_n 2, 1) := by decide +kernel
theorem dX0_resultLum_14 : decode cX0_resultLum 14 = .ok (.iconst 0, 1) := by decide +kernel
theorem dX0_resultLum_15 : decode cX0_resultLum 15 = .ok (.invokestatic 54, 3) := by decide +kernel
theorem dX0_resultLum_18 : decode cX0_resultLum 18 = .ok (.iload_n 3, 1) := by decide +kernel
theorem dX0_resultLum_19 : decode cX0_resultLum 19 = .ok (.invokestatic 72, 3) := by decide +kernel
theorem dX0_resultLum_22 : decode cX0_resultLum 22 = .ok (.iload_n 2, 1) := by decide +kernel
theorem dX0_resultLum_23 : decode cX0_resultLum 23 = .ok (.iconst 1, 1) := by decide +kernel
theorem dX0_resultLum_24 : decode cX0_resultLum 24 = .ok (.invokestatic 54, 3) := by decide +kernel
theorem dX0_resultLum_27 : decode cX0_resultLum 27 = .ok (.iload_n 3, 1) := by decide +kernel
theorem dX0_resultLum_28 : decode cX0_resultLum 28 = .ok (.invokestatic 72, 3) := by decide +kernel
theorem dX0_resultLum_31 : decode cX0_resultLum 31 = .ok (.iload_n 2, 1) := by decide +kernel
theorem dX0_resultLum_32 : decode cX0_resultLum 32 = .ok (.iconst 2, 1) := by decide +kernel
theorem dX0_resultLum_33 : decode cX0_resultLum 33 = .ok (.invokestatic 54, 3) := by decide +kernel
theorem dX0_resultLum_36 : decode cX0_resultLum 36 = .ok (.iload_n 3, 1) := by decide +kernel
theorem dX0_resultLum_37 : decode cX0_resultLum 37 = .ok (.invokestatic 72, 3) := by decide +kernel
theorem dX0_resultLum_40 : decode cX0_resultLum 40 = .ok (.invokestatic 75, 3) := by decide +kernel
theorem dX0_resultLum_43 : decode cX0_resultLum 43 = .ok (.ireturn, 1) := by decide +kernel
theorem dX1_ofBytes_0 : decode cX1_ofBytes 0 = .ok (.iload_n 0, 1) := by decide +kernel
theorem dX1_ofBytes_1 : decode cX1_ofBytes 1 = .ok (.tableswitch 141 1 11 #[59, 65, 71, 77, 83, 89, 95, 101, 107, 113, 125], 59) := by decide +kernel
theorem dX1_ofBytes_60 : decode cX1_ofBytes 60 = .ok (.iload_n 1, 1) := by decide +kernel
theorem dX1_ofBytes_61 : decode cX1_ofBytes 61 = .ok (.iload_n 2, 1) := by decide +kernel
theorem dX1_ofBytes_62 : decode cX1_ofBytes 62 = .ok (.invokestatic 9, 3) := by decide +kernel
theorem dX1_ofBytes_65 : decode cX1_ofBytes 65 = .ok (.ireturn, 1) := by decide +kernel
theorem dX1_ofBytes_66 : decode cX1_ofBytes 66 = .ok (.iload_n 1, 1) := by decide +kernel
theorem dX1_ofBytes_67 : decode cX1_ofBytes 67 = .ok (.iload_n 2, 1) := by decide +kernel
theorem dX1_ofBytes_68 : decode cX1_ofBytes 68 = .ok (.invokestatic 15, 3) := by decide +kernel
theorem dX1_ofBytes_71 : decode cX1_ofBytes 71 = .ok (.ireturn, 1) := by decide +kernel
theorem dX1_ofBytes_72 : decode cX1_ofBytes 72 = .ok (.iload_n 2, 1) := by decide +kernel
theorem dX1_ofBytes_73 : decode cX1_ofBytes 73 = .ok (.iload_n 1, 1) := by decide +kernel
theorem dX1_ofBytes_74 : decode cX1_ofBytes 74 = .ok (.invokestatic 18, 3) := by decide +kernel
theorem dX1_ofBytes_77 : decode cX1_ofBytes 77 = .ok (.ireturn, 1) := by decide +kernel
theorem dX1_ofBytes_78 : decode cX1_ofBytes 78 = .ok (.iload_n 1, 1) := by decide +kernel
theorem dX1_ofBytes_79 : decode cX1_ofBytes 79 = .ok (.iload_n 2, 1) := by decide +kernel
theorem dX1_ofBytes_80 : decode cX1_ofBytes 80 = .ok (.invokestatic 23, 3) := by decide +kernel
theorem dX1_ofBytes_83 : decode cX1_ofBytes 83 = .ok (.ireturn, 1) := by decide +kernel
theorem dX1_ofBytes_84 : decode cX1_ofBytes 84 = .ok (.iload_n 1, 1) := by decide +kernel
theorem dX1_ofBytes_85 : decode cX1_ofBytes 85 = .ok (.iload_n 2, 1) := by decide +kernel
theorem dX1_ofBytes_86 : decode cX1_ofBytes 86 = .ok (.invokestatic 28, 3) := by decide +kernel
theorem dX1_ofBytes_89 : decode cX1_ofBytes 89 = .ok (.ireturn, 1) := by decide +kernel
theorem dX1_ofBytes_90 : decode cX1_ofBytes 90 = .ok (.iload_n 1, 1) := by decide +kernel
theorem dX1_ofBytes_91 : decode cX1_ofBytes 91 = .ok (.iload_n 2, 1) := by decide +kernel
theorem dX1_ofBytes_92 : decode cX1_ofBytes 92 = .ok (.invokestatic 31, 3) := by decide +kernel
theorem dX1_ofBytes_95 : decode cX1_ofBytes 95 = .ok (.ireturn, 1) := by decide +kernel
theorem dX1_ofBytes_96 : decode cX1_ofBytes 96 = .ok (.iload_n 1, 1) := by decide +kernel
theorem dX1_ofBytes_97 : decode cX1_ofBytes 97 = .ok (.iload_n 2, 1) := by decide +kernel
theorem dX1_ofBytes_98 : decode cX1_ofBytes 98 = .ok (.invokestatic 34, 3) := by decide +kernel
theorem dX1_ofBytes_101 : decode cX1_ofBytes 101 = .ok (.ireturn, 1) := by decide +kernel
theorem dX1_ofBytes_102 : decode cX1_ofBytes 102 = .ok (.iload_n 1, 1) := by decide +kernel
theorem dX1_ofBytes_103 : decode cX1_ofBytes 103 = .ok (.iload_n 2, 1) := by decide +kernel
theorem dX1_ofBytes_104 : decode cX1_ofBytes 104 = .ok (.invokestatic 18, 3) := by decide +kernel
theorem dX1_ofBytes_107 : decode cX1_ofBytes 107 = .ok (.ireturn, 1) := by decide +kernel
theorem dX1_ofBytes_108 : decode cX1_ofBytes 108 = .ok (.iload_n 1, 1) := by decide +kernel
theorem dX1_ofBytes_109 : decode cX1_ofBytes 109 = .ok (.iload_n 2, 1) := by decide +kernel
theorem dX1_ofBytes_110 : decode cX1_ofBytes 110 = .ok (.invokestatic 37, 3) := by decide +kernel
theorem dX1_ofBytes_113 : decode cX1_ofBytes 113 = .ok (.ireturn, 1) := by decide +kernel
theorem dX1_ofBytes_114 : decode cX1_ofBytes 114 = .ok (.iload_n 1, 1) := by decide +kernel
theorem dX1_ofBytes_115 : decode cX1_ofBytes 115 = .ok (.iload_n 2, 1) := by decide +kernel
theorem dX1_ofBytes_116 : decode cX1_ofBytes 116 = .ok (.invokestatic 28, 3) := by decide +kernel
theorem dX1_ofBytes_119 : decode cX1_ofBytes 119 = .ok (.iload_n 1, 1) := by decide +kernel
theorem dX1_ofBytes_120 : decode cX1_ofBytes 120 = .ok (.iload_n 2, 1) := by decide +kernel
theorem dX1_ofBytes_121 : decode cX1_ofBytes 121 = .ok (.invokestatic 23, 3) := by decide +kernel
theorem dX1_ofBytes_124 : decode cX1_ofBytes 124 = .ok (.isub, 1) := by decide +kernel
theorem dX1_ofBytes_125 : decode cX1_ofBytes 125 = .ok (.ireturn, 1) := by decide +kernel
theorem dX1_ofBytes_126 : decode cX1_ofBytes 126 = .ok (.iconst 0, 1) := by decide +kernel
theorem dX1_ofBytes_127 : decode cX1_ofBytes 127 = .ok (.iload_n 1, 1) := by decide +kernel
theorem dX1_ofBytes_128 : decode cX1_ofBytes 128 = .ok (.iload_n 2, 1) := by decide +kernel
theorem dX1_ofBytes_129 : decode cX1_ofBytes 129 = .ok (.iadd, 1) := by decide +kernel
theorem dX1_ofBytes_130 : decode cX1_ofBytes 130 = .ok (.iconst 2, 1) := by decide +kernel
theorem dX1_ofBytes_131 : decode cX1_ofBytes 131 = .ok (.iload_n 1, 1) := by decide +kernel
theorem dX1_ofBytes_132 : decode cX1_ofBytes 132 = .ok (.iload_n 2, 1) := by decide +kernel
theorem dX1_ofBytes_133 : decode cX1_ofBytes 133 = .ok (.invokestatic 9, 3) := by decide +kernel
theorem dX1_ofBytes_136 : decode cX1_ofBytes 136 = .ok (.imul, 1) := by decide +kernel
theorem dX1_ofBytes_137 : decode cX1_ofBytes 137 = .ok (.isub, 1) := by decide +kernel
theorem dX1_ofBytes_138 : decode cX1_ofBytes 138 = .ok (.invokestatic 28, 3) := by decide +kernel
theorem dX1_ofBytes_141 : decode cX1_ofBytes 141 = .ok (.ireturn, 1) := by decide +kernel
theorem dX1_ofBytes_142 : decode cX1_ofBytes 142 = .ok (.iload_n 2, 1) := by decide +kernel
theorem dX1_ofBytes_143 : decode cX1_ofBytes 143 = .ok (.ireturn, 1) := by decide +kernel
theorem dX1_ofColours_0 : decode cX1_ofColours 0 = .ok (.iload_n 0, 1) := by decide +kernel
theorem dX1_ofColours_1 : decode cX1_ofColours 1 = .ok (.tableswitch 81 12 15 #[31, 47, 63, 72], 31) := by decide +kernel
theorem dX1_ofColours_32 : decode cX1_ofColours 32 = .ok (.iload_n 2, 1) := by decide +kernel
theorem dX1_ofColours_33 : decode cX1_ofColours 33 = .ok (.iload_n 1, 1) := by decide +kernel
theorem dX1_ofColours_34 : decode cX1_ofColours 34 = .ok (.invokestatic 40, 3) := by decide +kernel
theorem dX1_ofColours_37 : decode cX1_ofColours 37 = .ok (.invokestatic 44, 3) := by decide +kernel
theorem dX1_ofColours_40 : decode cX1_ofColours 40 = .ok (.iload_n 1, 1) := by decide +kernel
theorem dX1_ofColours_41 : decode cX1_ofColours 41 = .ok (.invokestatic 47, 3) := by decide +kernel
theorem dX1_ofColours_44 : decode cX1_ofColours 44 = .ok (.invokestatic 50, 3) := by decide +kernel
theorem dX1_ofColours_47 : decode cX1_ofColours 47 = .ok (.ireturn, 1) := by decide +kernel
theorem dX1_ofColours_48 : decode cX1_ofColours 48 = .ok (.iload_n 1, 1) := by decide +kernel
theorem dX1_ofColours_49 : decode cX1_ofColours 49 = .ok (.iload_n 2, 1) := by decide +kernel
theorem dX1_ofColours_50 : decode cX1_ofColours 50 = .ok (.invokestatic 40, 3) := by decide +kernel
theorem dX1_ofColours_53 : decode cX1_ofColours 53 = .ok (.invokestatic 44, 3) := by decide +kernel
theorem dX1_ofColours_56 : decode cX1_ofColours 56 = .ok (.iload_n 1, 1) := by decide +kernel
theorem dX1_ofColours_57 : decode cX1_ofColours 57 = .ok (.invokestatic 47, 3) := by decide +kernel
theorem dX1_ofColours_60 : decode cX1_ofColours 60 = .ok (.invokestatic 50, 3) := by decide +kernel
theorem dX1_ofColours_63 : decode cX1_ofColours 63 = .ok (.ireturn, 1) := by decide +kernel
theorem dX1_ofColours_64 : decode cX1_ofColours 64 = .ok (.iload_n 2, 1) := by decide +kernel
theorem dX1_ofColours_65 : decode cX1_ofColours 65 = .ok (.iload_n 1, 1) := by decide +kernel
theorem dX1_ofColours_66 : decode cX1_ofColours 66 = .ok (.invokestatic 47, 3) := by decide +kernel
theorem dX1_ofColours_69 : decode cX1_ofColours 69 = .ok (.invokestatic 50, 3) := by decide +kernel
theorem dX1_ofColours_72 : decode cX1_ofColours 72 = .ok (.ireturn, 1) := by decide +kernel
theorem dX1_ofColours_73 : decode cX1_ofColours 73 = .ok (.iload_n 1, 1) := by decide +kernel
theorem dX1_ofColours_74 : decode cX1_ofColours 74 = .ok (.iload_n 2, 1) := by decide +kernel
theorem dX1_ofColours_75 : decode cX1_ofColours 75 = .ok (.invokestatic 47, 3) := by decide +kernel
theorem dX1_ofColours_78 : decode cX1_ofColours 78 = .ok (.invokestatic 50, 3) := by decide +kernel
theorem dX1_ofColours_81 : decode cX1_ofColours 81 = .ok (.ireturn, 1) := by decide +kernel
theorem dX1_ofColours_82 : decode cX1_ofColours 82 = .ok (.iload_n 0, 1) := by decide +kernel
theorem dX1_ofColours_83 : decode cX1_ofColours 83 = .ok (.iload_n 1, 1) := by decide +kernel
theorem dX1_ofColours_84 : decode cX1_ofColours 84 = .ok (.iconst 0, 1) := by decide +kernel
theorem dX1_ofColours_85 : decode cX1_ofColours 85 = .ok (.invokestatic 53, 3) := by decide +kernel
theorem dX1_ofColours_88 : decode cX1_ofColours 88 = .ok (.iload_n 2, 1) := by decide +kernel
theorem dX1_ofColours_89 : decode cX1_ofColours 89 = .ok (.iconst 0, 1) := by decide +kernel
theorem dX1_ofColours_90 : decode cX1_ofColours 90 = .ok (.invokestatic 53, 3) := by decide +kernel
theorem dX1_ofColours_93 : decode cX1_ofColours 93 = .ok (.invokestatic 56, 3) := by decide +kernel
theorem dX1_ofColours_96 : decode cX1_ofColours 96 = .ok (.iload_n 0, 1) := by decide +kernel
theorem dX1_ofColours_97 : decode cX1_ofColours 97 = .ok (.iload_n 1, 1) := by decide +kernel
theorem dX1_ofColours_98 : decode cX1_ofColours 98 = .ok (.iconst 1, 1) := by decide +kernel
theorem dX1_ofColours_99 : decode cX1_ofColours 99 = .ok (.invokestatic 53, 3) := by decide +kernel
theorem dX1_ofColours_102 : decode cX1_ofColours 102 = .ok (.iload_n 2, 1) := by decide +kernel
theorem dX1_ofColours_103 : decode cX1_ofColours 103 = .ok (.iconst 1, 1) := by decide +kernel
theorem dX1_ofColours_104 : decode cX1_ofColours 104 = .ok (.invokestatic 53, 3) := by decide +kernel
theorem dX1_ofColours_107 : decode cX1_ofColours 107 = .ok (.invokestatic 56, 3) := by decide +kernel
theorem dX1_ofColours_110 : decode cX1_ofColours 110 = .ok (.iload_n 0, 1) := by decide +kernel
theorem dX1_ofColours_111 : decode cX1_ofColours 111 = .ok (.iload_n 1, 1) := by decide +kernel
theorem dX1_ofColours_112 : decode cX1_ofColours 112 = .ok (.iconst 2, 1) := by decide +kernel
theorem dX1_ofColours_113 : decode cX1_ofColours 113 = .ok (.invokestatic 53, 3) := by decide +kernel
theorem dX1_ofColours_116 : decode cX1_ofColours 116 = .ok (.iload_n 2, 1) := by decide +kernel
theorem dX1_ofColours_117 : decode cX1_ofColours 117 = .ok (.iconst 2, 1) := by decide +kernel
theorem dX1_ofColours_118 : decode cX1_ofColours 118 = .ok (.invokestatic 53, 3) := by decide +kernel
theorem dX1_ofColours_121 : decode cX1_ofColours 121 = .ok (.invokestatic 56, 3) := by decide +kernel
theorem dX1_ofColours_124 : decode cX1_ofColours 124 = .ok (.invokestatic 60, 3) := by decide +kernel
theorem dX1_ofColours_127 : decode cX1_ofColours 127 = .ok (.ireturn, 1) := by decide +kernel
theorem dX1_dodge_0 : decode cX1_dodge 0 = .ok (.iload_n 0, 1) := by decide +kernel
theorem dX1_dodge_1 : decode cX1_dodge 1 = .ok (.ifCond .ne 5, 3) := by decide +kernel
theorem dX1_dodge_4 : decode cX1_dodge 4 = .ok (.iconst 0, 1) := by decide +kernel
theorem dX1_dodge_5 : decode cX1_dodge 5 = .ok (.ireturn, 1) := by decide +kernel
theorem dX1_dodge_6 : decode cX1_dodge 6 = .ok (.sipush 255, 3) := by decide +kernel
theorem dX1_dodge_9 : decode cX1_dodge 9 = .ok (.iload_n 1, 1) := by decide +kernel
theorem dX1_dodge_10 : decode cX1_dodge 10 = .ok (.isub, 1) := by decide +kernel
theorem dX1_dodge_11 : decode cX1_dodge 11 = .ok (.istore_n 2, 1) := by decide +kernel
theorem dX1_dodge_12 : decode cX1_dodge 12 = .ok (.iload_n 0, 1) := by decide +kernel
theorem dX1_dodge_13 : decode cX1_dodge 13 = .ok (.iload_n 2, 1) := by decide +kernel
theorem dX1_dodge_14 : decode cX1_dodge 14 = .ok (.if_icmp .ge 7, 3) := by decide +kernel
theorem dX1_dodge_17 : decode cX1_dodge 17 = .ok (.iload_n 2, 1) := by decide +kernel
theorem dX1_dodge_18 : decode cX1_dodge 18 = .ok (.ifCond .gt 7, 3) := by decide +kernel
theorem dX1_dodge_21 : decode cX1_dodge 21 = .ok (.sipush 255, 3) := by decide +kernel
theorem dX1_dodge_24 : decode cX1_dodge 24 = .ok (.ireturn, 1) := by decide +kernel
theorem dX1_dodge_25 : decode cX1_dodge 25 = .ok (.sipush 255, 3) := by decide +kernel
theorem dX1_dodge_28 : decode cX1_dodge 28 = .ok (.iload_n 0, 1) := by decide +kernel
theorem dX1_dodge_29 : decode cX1_dodge 29 = .ok (.imul, 1) := by decide +kernel
theorem dX1_dodge_30 : decode cX1_dodge 30 = .ok (.iload_n 2, 1) := by decide +kernel
theorem dX1_dodge_31 : decode cX1_dodge 31 = .ok (.iconst 2, 1) := by decide +kernel
theorem dX1_dodge_32 : decode cX1_dodge 32 = .ok (.idiv, 1) := by decide +kernel
theorem dX1_dodge_33 : decode cX1_dodge 33 = .ok (.iadd, 1) := by decide +kernel
theorem dX1_dodge_34 : decode cX1_dodge 34 = .ok (.iload_n 2, 1) := by decide +kernel
theorem dX1_dodge_35 : decode cX1_dodge 35 = .ok (.idiv, 1) := by decide +kernel
theorem dX1_dodge_36 : decode cX1_dodge 36 = .ok (.ireturn, 1) := by decide +kernel
theorem dX1_burn_0 : decode cX1_burn 0 = .ok (.iload_n 0, 1) := by decide +kernel
theorem dX1_burn_1 : decode cX1_burn 1 = .ok (.sipush 255, 3) := by decide +kernel
theorem dX1_burn_4 : decode cX1_burn 4 = .ok (.if_icmp .ne 7, 3) := by decide +kernel
theorem dX1_burn_7 : decode cX1_burn 7 = .ok (.sipush 255, 3) := by decide +kernel
theorem dX1_burn_10 : decode cX1_burn 10 = .ok (.ireturn, 1) := by decide +kernel
theorem dX1_burn_11 : decode cX1_burn 11 = .ok (.iload_n 0, 1) := by decide +kernel
theorem dX1_burn_12 : decode cX1_burn 12 = .ok (.iload_n 1, 1) := by decide +kernel
theorem dX1_burn_13 : decode cX1_burn 13 = .ok (.iadd, 1) := by decide +kernel
theorem dX1_burn_14 : decode cX1_burn 14 = .ok (.sipush 255, 3) := by decide +kernel
theorem dX1_burn_17 : decode cX1_burn 17 = .ok (.if_icmp .le 7, 3) := by decide +kernel
theorem dX1_burn_20 : decode cX1_burn 20 = .ok (.iload_n 1, 1) := by decide +kernel
theorem dX1_burn_21 : decode cX1_burn 21 = .ok (.ifCond .gt 5, 3) := by decide +kernel
theorem dX1_burn_24 : decode cX1_burn 24 = .ok (.iconst 0, 1) := by decide +kernel
theorem dX1_burn_25 : decode cX1_burn 25 = .ok (.ireturn, 1) := by decide +kernel
theorem dX1_burn_26 : decode cX1_burn 26 = .ok (.sipush 255, 3) := by decide +kernel
theorem dX1_burn_29 : decode cX1_burn 29 = .ok (.sipush 255, 3) := by decide +kernel
theorem dX1_burn_32 : decode cX1_burn 32 = .ok (.sipush 255, 3) := by decide +kernel
theorem dX1_burn_35 : decode cX1_burn 35 = .ok (.iload_n 0, 1) := by decide +kernel
theorem dX1_burn_36 : decode cX1_burn 36 = .ok (.isub, 1) := by decide +kernel
theorem dX1_burn_37 : decode cX1_burn 37 = .ok (.imul, 1) := by decide +kernel
theorem dX1_burn_38 : decode cX1_burn 38 = .ok (.iload_n 1, 1) := by decide +kernel
theorem dX1_burn_39 : decode cX1_burn 39 = .ok (.iconst 2, 1) := by decide +kernel
theorem dX1_burn_40 : decode cX1_burn 40 = .ok (.idiv, 1) := by decide +kernel
theorem dX1_burn_41 : decode cX1_burn 41 = .ok (.iadd, 1) := by decide +kernel
theorem dX1_burn_42 : decode cX1_burn 42 = .ok (.iload_n 1, 1) := by decide +kernel
theorem dX1_burn_43 : decode cX1_burn 43 = .ok (.idiv, 1) := by decide +kernel
theorem dX1_burn_44 : decode cX1_burn 44 = .ok (.isub, 1) := by decide +kernel
theorem dX1_burn_45 : decode cX1_burn 45 = .ok (.ireturn, 1) := by decide +kernel
theorem dX1_hardLight_0 : decode cX1_hardLight 0 = .ok (.iload_n 1, 1) := by decide +kernel
theorem dX1_hardLight_1 : decode cX1_hardLight 1 = .ok (.bipush 127, 2) := by decide +kernel
theorem dX1_hardLight_3 : decode cX1_hardLight 3 = .ok (.if_icmp .gt 13, 3) := by decide +kernel
theorem dX1_hardLight_6 : decode cX1_hardLight 6 = .ok (.iload_n 0, 1) := by decide +kernel
theorem dX1_hardLight_7 : decode cX1_hardLight 7 = .ok (.iconst 2, 1) := by decide +kernel
theorem dX1_hardLight_8 : decode cX1_hardLight 8 = .ok (.iload_n 1, 1) := by decide +kernel
theorem dX1_hardLight_9 : decode cX1_hardLight 9 = .ok (.imul, 1) := by decide +kernel
theorem dX1_hardLight_10 : decode cX1_hardLight 10 = .ok (.invokestatic 9, 3) := by decide +kernel
theorem dX1_hardLight_13 : decode cX1_hardLight 13 = .ok (.goto 14, 3) := by decide +kernel
theorem dX1_hardLight_16 : decode cX1_hardLight 16 = .ok (.iload_n 0, 1) := by decide +kernel
theorem dX1_hardLight_17 : decode cX1_hardLight 17 = .ok (.iconst 2, 1) := by decide +kernel
theorem dX1_hardLight_18 : decode cX1_hardLight 18 = .ok (.iload_n 1, 1) := by decide +kernel
theorem dX1_hardLight_19 : decode cX1_hardLight 19 = .ok (.imul, 1) := by decide +kernel
theorem dX1_hardLight_20 : decode cX1_hardLight 20 = .ok (.sipush 255, 3) := by decide +kernel
theorem dX1_hardLight_23 : decode cX1_hardLight 23 = .ok (.isub, 1) := by decide +kernel
theorem dX1_hardLight_24 : decode cX1_hardLight 24 = .ok (.invokestatic 15, 3) := by decide +kernel
theorem dX1_hardLight_27 : decode cX1_hardLight 27 = .ok (.ireturn, 1) := by decide +kernel
theorem dX1_softLight_0 : decode cX1_softLight 0 = .ok (.iload_n 1, 1) := by decide +kernel
theorem dX1_softLight_1 : decode cX1_softLight 1 = .ok (.bipush 127, 2) := by decide +kernel
theorem dX1_softLight_3 : decode cX1_softLight 3 = .ok (.if_icmp .gt 25, 3) := by decide +kernel
theorem dX1_softLight_6 : decode cX1_softLight 6 = .ok (.iload_n 0, 1) := by decide +kernel
theorem dX1_softLight_7 : decode cX1_softLight 7 = .ok (.sipush 255, 3) := by decide +kernel
theorem dX1_softLight_10 : decode cX1_softLight 10 = .ok (.iconst 2, 1) := by decide +kernel
theorem dX1_softLight_11 : decode cX1_softLight 11 = .ok (.iload_n 1, 1) := by decide +kernel
theorem dX1_softLight_12 : decode cX1_softLight 12 = .ok (.imul, 1) := by decide +kernel
theorem dX1_softLight_13 : decode cX1_softLight 13 = .ok (.isub, 1) := by decide +kernel
theorem dX1_softLight_14 : decode cX1_softLight 14 = .ok (.iload_n 0, 1) := by decide +kernel
theorem dX1_softLight_15 : decode cX1_softLight 15 = .ok (.sipush 255, 3) := by decide +kernel
theorem dX1_softLight_18 : decode cX1_softLight 18 = .ok (.iload_n 0, 1) := by decide +kernel
theorem dX1_softLight_19 : decode cX1_softLight 19 = .ok (.isub, 1) := by decide +kernel
theorem dX1_softLight_20 : decode cX1_softLight 20 = .ok (.invokestatic 9, 3) := by decide +kernel
theorem dX1_softLight_23 : decode cX1_softLight 23 = .ok (.invokestatic 9, 3) := by decide +kernel
theorem dX1_softLight_26 : decode cX1_softLight 26 = .ok (.isub, 1) := by decide +kernel
theorem dX1_softLight_27 : decode cX1_softLight 27 = .ok (.ireturn, 1) := by decide +kernel
theorem dX1_softLight_28 : decode cX1_softLight 28 = .ok (.iload_n 0, 1) := by decide +kernel
theorem dX1_softLight_29 : decode cX1_softLight 29 = .ok (.iconst 2, 1) := by decide +kernel
theorem dX1_softLight_30 : decode cX1_softLight 30 = .ok (.iload_n 1, 1) := by decide +kernel
theorem dX1_softLight_31 : decode cX1_softLight 31 = .ok (.imul, 1) := by decide +kernel
theorem dX1_softLight_32 : decode cX1_softLight 32 = .ok (.sipush 255, 3) := by decide +kernel
theorem dX1_softLight_35 : decode cX1_softLight 35 = .ok (.isub, 1) := by decide +kernel
theorem dX1_softLight_36 : decode cX1_softLight 36 = .ok (.sipush 255, 3) := by decide +kernel
theorem dX1_softLight_39 : decode cX1_softLight 39 = .ok (.iload_n 0, 1) := by decide +kernel
theorem dX1_softLight_40 : decode cX1_softLight 40 = .ok (.imul, 1) := by decide +kernel
theorem dX1_softLight_41 : decode cX1_softLight 41 = .ok (.invokestatic 63, 3) := by decide +kernel
theorem dX1_softLight_44 : decode cX1_softLight 44 = .ok (.iload_n 0, 1) := by decide +kernel
theorem dX1_softLight_45 : decode cX1_softLight 45 = .ok (.isub, 1) := by decide +kernel
theorem dX1_softLight_46 : decode cX1_softLight 46 = .ok (.invokestatic 9, 3) := by decide +kernel
theorem dX1_softLight_49 : decode cX1_softLight 49 = .ok (.iadd, 1) := by decide +kernel
theorem dX1_softLight_50 : decode cX1_softLight 50 = .ok (.ireturn, 1) := by decide +kernel
theorem dX1_rootOf_0 : decode cX1_rootOf 0 = .ok (.iconst 0, 1) := by decide +kernel
theorem dX1_rootOf_1 : decode cX1_rootOf 1 = .ok (.istore_n 1, 1) := by decide +kernel
theorem dX1_rootOf_2 : decode cX1_rootOf 2 = .ok (.sipush 128, 3) := by decide +kernel
theorem dX1_rootOf_5 : decode cX1_rootOf 5 = .ok (.istore_n 2, 1) := by decide +kernel
theorem dX1_rootOf_6 : decode cX1_rootOf 6 = .ok (.iload_n 2, 1) := by decide +kernel
theorem dX1_rootOf_7 : decode cX1_rootOf 7 = .ok (.ifCond .le 23, 3) := by decide +kernel
theorem dX1_rootOf_10 : decode cX1_rootOf 10 = .ok (.iload_n 1, 1) := by decide +kernel
theorem dX1_rootOf_11 : decode cX1_rootOf 11 = .ok (.iload_n 2, 1) := by decide +kernel
theorem dX1_rootOf_12 : decode cX1_rootOf 12 = .ok (.iadd, 1) := by decide +kernel
theorem dX1_rootOf_13 : decode cX1_rootOf 13 = .ok (.istore_n 3, 1) := by decide +kernel
theorem dX1_rootOf_14 : decode cX1_rootOf 14 = .ok (.iload_n 3, 1) := by decide +kernel
theorem dX1_rootOf_15 : decode cX1_rootOf 15 = .ok (.iload_n 3, 1) := by decide +kernel
theorem dX1_rootOf_16 : decode cX1_rootOf 16 = .ok (.imul, 1) := by decide +kernel
theorem dX1_rootOf_17 : decode cX1_rootOf 17 = .ok (.iload_n 0, 1) := by decide +kernel
theorem dX1_rootOf_18 : decode cX1_rootOf 18 = .ok (.if_icmp .gt 5, 3) := by decide +kernel
theorem dX1_rootOf_21 : decode cX1_rootOf 21 = .ok (.iload_n 3, 1) := by decide +kernel
theorem dX1_rootOf_22 : decode cX1_rootOf 22 = .ok (.istore_n 1, 1) := by decide +kernel
theorem dX1_rootOf_23 : decode cX1_rootOf 23 = .ok (.iload_n 2, 1) := by decide +kernel
theorem dX1_rootOf_24 : decode cX1_rootOf 24 = .ok (.iconst 1, 1) := by decide +kernel
theorem dX1_rootOf_25 : decode cX1_rootOf 25 = .ok (.ishr, 1) := by decide +kernel
theorem dX1_rootOf_26 : decode cX1_rootOf 26 = .ok (.istore_n 2, 1) := by decide +kernel
theorem dX1_rootOf_27 : decode cX1_rootOf 27 = .ok (.goto (-21), 3) := by decide +kernel
theorem dX1_rootOf_30 : decode cX1_rootOf 30 = .ok (.iload_n 1, 1) := by decide +kernel
theorem dX1_rootOf_31 : decode cX1_rootOf 31 = .ok (.ireturn, 1) := by decide +kernel
theorem dX1_lumOf_0 : decode cX1_lumOf 0 = .ok (.iload_n 0, 1) := by decide +kernel
theorem dX1_lumOf_1 : decode cX1_lumOf 1 = .ok (.iconst 0, 1) := by decide +kernel
theorem dX1_lumOf_2 : decode cX1_lumOf 2 = .ok (.invokestatic 53, 3) := by decide +kernel
theorem dX1_lumOf_5 : decode cX1_lumOf 5 = .ok (.iload_n 0, 1) := by decide +kernel
theorem dX1_lumOf_6 : decode cX1_lumOf 6 = .ok (.iconst 1, 1) := by decide +kernel
theorem dX1_lumOf_7 : decode cX1_lumOf 7 = .ok (.invokestatic 53, 3) := by decide +kernel
theorem dX1_lumOf_10 : decode cX1_lumOf 10 = .ok (.iload_n 0, 1) := by decide +kernel
theorem dX1_lumOf_11 : decode cX1_lumOf 11 = .ok (.iconst 2, 1) := by decide +kernel
theorem dX1_lumOf_12 : decode cX1_lumOf 12 = .ok (.invokestatic 53, 3) := by decide +kernel
theorem dX1_lumOf_15 : decode cX1_lumOf 15 = .ok (.invokestatic 66, 3) := by decide +kernel
theorem dX1_lumOf_18 : decode cX1_lumOf 18 = .ok (.ireturn, 1) := by decide +kernel
theorem dX1_leastOf_0 : decode cX1_leastOf 0 = .ok (.iload_n 0, 1) := by decide +kernel
theorem dX1_leastOf_1 : decode cX1_leastOf 1 = .ok (.iload_n 1, 1) := by decide +kernel
theorem dX1_leastOf_2 : decode cX1_leastOf 2 = .ok (.iload_n 2, 1) := by decide +kernel
theorem dX1_leastOf_3 : decode cX1_leastOf 3 = .ok (.invokestatic 23, 3) := by decide +kernel
theorem dX1_leastOf_6 : decode cX1_leastOf 6 = .ok (.invokestatic 23, 3) := by decide +kernel
theorem dX1_leastOf_9 : decode cX1_leastOf 9 = .ok (.ireturn, 1) := by decide +kernel
theorem dX1_mostOf_0 : decode cX1_mostOf 0 = .ok (.iload_n 0, 1) := by decide +kernel
theorem dX1_mostOf_1 : decode cX1_mostOf 1 = .ok (.iload_n 1, 1) := by decide +kernel
theorem dX1_mostOf_2 : decode cX1_mostOf 2 = .ok (.iload_n 2, 1) := by decide +kernel
theorem dX1_mostOf_3 : decode cX1_mostOf 3 = .ok (.invokestatic 28, 3) := by decide +kernel
theorem dX1_mostOf_6 : decode cX1_mostOf 6 = .ok (.invokestatic 28, 3) := by decide +kernel
theorem dX1_mostOf_9 : decode cX1_mostOf 9 = .ok (.ireturn, 1) := by decide +kernel
theorem dX1_satOf_0 : decode cX1_satOf 0 = .ok (.iload_n 0, 1) := by decide +kernel
theorem dX1_satOf_1 : decode cX1_satOf 1 = .ok (.iconst 0, 1) := by decide +kernel
theorem dX1_satOf_2 : decode cX1_satOf 2 = .ok (.invokestatic 53, 3) := by decide +kernel
theorem dX1_satOf_5 : decode cX1_satOf 5 = .ok (.istore_n 1, 1) := by decide +kernel
theorem dX1_satOf_6 : decode cX1_satOf 6 = .ok (.iload_n 0, 1) := by decide +kernel
theorem dX1_satOf_7 : decode cX1_satOf 7 = .ok (.iconst 1, 1) := by decide +kernel
theorem dX1_satOf_8 : decode cX1_satOf 8 = .ok (.invokestatic 53, 3) := by decide +kernel
theorem dX1_satOf_11 : decode cX1_satOf 11 = .ok (.istore_n 2, 1) := by decide +kernel
theorem dX1_satOf_12 : decode cX1_satOf 12 = .ok (.iload_n 0, 1) := by decide +kernel
theorem dX1_satOf_13 : decode cX1_satOf 13 = .ok (.iconst 2, 1) := by decide +kernel
theorem dX1_satOf_14 : decode cX1_satOf 14 = .ok (.invokestatic 53, 3) := by decide +kernel
theorem dX1_satOf_17 : decode cX1_satOf 17 = .ok (.istore_n 3, 1) := by decide +kernel
theorem dX1_satOf_18 : decode cX1_satOf 18 = .ok (.iload_n 1, 1) := by decide +kernel
theorem dX1_satOf_19 : decode cX1_satOf 19 = .ok (.iload_n 2, 1) := by decide +kernel
theorem dX1_satOf_20 : decode cX1_satOf 20 = .ok (.iload_n 3, 1) := by decide +kernel
theorem dX1_satOf_21 : decode cX1_satOf 21 = .ok (.invokestatic 69, 3) := by decide +kernel
theorem dX1_satOf_24 : decode cX1_satOf 24 = .ok (.iload_n 1, 1) := by decide +kernel
theorem dX1_satOf_25 : decode cX1_satOf 25 = .ok (.iload_n 2, 1) := by decide +kernel
theorem dX1_satOf_26 : decode cX1_satOf 26 = .ok (.iload_n 3, 1) := by decide +kernel
theorem dX1_satOf_27 : decode cX1_satOf 27 = .ok (.invokestatic 72, 3) := by decide +kernel
theorem dX1_satOf_30 : decode cX1_satOf 30 = .ok (.isub, 1) := by decide +kernel
theorem dX1_satOf_31 : decode cX1_satOf 31 = .ok (.ireturn, 1) := by decide +kernel
theorem dX1_withSat_0 : decode cX1_withSat 0 = .ok (.iload_n 0, 1) := by decide +kernel
theorem dX1_withSat_1 : decode cX1_withSat 1 = .ok (.invokestatic 40, 3) := by decide +kernel
theorem dX1_withSat_4 : decode cX1_withSat 4 = .ok (.istore_n 2, 1) := by decide +kernel
theorem dX1_withSat_5 : decode cX1_withSat 5 = .ok (.iload_n 2, 1) := by decide +kernel
theorem dX1_withSat_6 : decode cX1_withSat 6 = .ok (.ifCond .gt 5, 3) := by decide +kernel
theorem dX1_withSat_9 : decode cX1_withSat 9 = .ok (.iconst 0, 1) := by decide +kernel
theorem dX1_withSat_10 : decode cX1_withSat 10 = .ok (.ireturn, 1) := by decide +kernel
theorem dX1_withSat_11 : decode cX1_withSat 11 = .ok (.iload_n 0, 1) := by decide +kernel
theorem dX1_withSat_12 : decode cX1_withSat 12 = .ok (.iconst 0, 1) := by decide +kernel
theorem dX1_withSat_13 : decode cX1_withSat 13 = .ok (.invokestatic 53, 3) := by decide +kernel
theorem dX1_withSat_16 : decode cX1_withSat 16 = .ok (.istore_n 3, 1) := by decide +kernel
theorem dX1_withSat_17 : decode cX1_withSat 17 = .ok (.iload_n 0, 1) := by decide +kernel
theorem dX1_withSat_18 : decode cX1_withSat 18 = .ok (.iconst 1, 1) := by decide +kernel
theorem dX1_withSat_19 : decode cX1_withSat 19 = .ok (.invokestatic 53, 3) := by decide +kernel
theorem dX1_withSat_22 : decode cX1_withSat 22 = .ok (.istore 4, 2) := by decide +kernel
theorem dX1_withSat_24 : decode cX1_withSat 24 = .ok (.iload_n 0, 1) := by decide +kernel
theorem dX1_withSat_25 : decode cX1_withSat 25 = .ok (.iconst 2, 1) := by decide +kernel
theorem dX1_withSat_26 : decode cX1_withSat 26 = .ok (.invokestatic 53, 3) := by decide +kernel
theorem dX1_withSat_29 : decode cX1_withSat 29 = .ok (.istore 5, 2) := by decide +kernel
theorem dX1_withSat_31 : decode cX1_withSat 31 = .ok (.iload_n 3, 1) := by decide +kernel
theorem dX1_withSat_32 : decode cX1_withSat 32 = .ok (.iload 4, 2) := by decide +kernel
theorem dX1_withSat_34 : decode cX1_withSat 34 = .ok (.iload 5, 2) := by decide +kernel
theorem dX1_withSat_36 : decode cX1_withSat 36 = .ok (.invokestatic 72, 3) := by decide +kernel
theorem dX1_withSat_39 : decode cX1_withSat 39 = .ok (.istore 6, 2) := by decide +kernel
theorem dX1_withSat_41 : decode cX1_withSat 41 = .ok (.iload_n 3, 1) := by decide +kernel
theorem dX1_withSat_42 : decode cX1_withSat 42 = .ok (.iload 6, 2) := by decide +kernel
theorem dX1_withSat_44 : decode cX1_withSat 44 = .ok (.isub, 1) := by decide +kernel
theorem dX1_withSat_45 : decode cX1_withSat 45 = .ok (.iload_n 1, 1) := by decide +kernel
theorem dX1_withSat_46 : decode cX1_withSat 46 = .ok (.imul, 1) := by decide +kernel
theorem dX1_withSat_47 : decode cX1_withSat 47 = .ok (.iload_n 2, 1) := by decide +kernel
theorem dX1_withSat_48 : decode cX1_withSat 48 = .ok (.idiv, 1) := by decide +kernel
theorem dX1_withSat_49 : decode cX1_withSat 49 = .ok (.iload 4, 2) := by decide +kernel
theorem dX1_withSat_51 : decode cX1_withSat 51 = .ok (.iload 6, 2) := by decide +kernel
theorem dX1_withSat_53 : decode cX1_withSat 53 = .ok (.isub, 1) := by decide +kernel
theorem dX1_withSat_54 : decode cX1_withSat 54 = .ok (.iload_n 1, 1) := by decide +kernel
theorem dX1_withSat_55 : decode cX1_withSat 55 = .ok (.imul, 1) := by decide +kernel
theorem dX1_withSat_56 : decode cX1_withSat 56 = .ok (.iload_n 2, 1) := by decide +kernel
theorem dX1_withSat_57 : decode cX1_withSat 57 = .ok (.idiv, 1) := by decide +kernel
theorem dX1_withSat_58 : decode cX1_withSat 58 = .ok (.iload 5, 2) := by decide +kernel
theorem dX1_withSat_60 : decode cX1_withSat 60 = .ok (.iload 6, 2) := by decide +kernel
theorem dX1_withSat_62 : decode cX1_withSat 62 = .ok (.isub, 1) := by decide +kernel
theorem dX1_withSat_63 : decode cX1_withSat 63 = .ok (.iload_n 1, 1) := by decide +kernel
theorem dX1_withSat_64 : decode cX1_withSat 64 = .ok (.imul, 1) := by decide +kernel
theorem dX1_withSat_65 : decode cX1_withSat 65 = .ok (.iload_n 2, 1) := by decide +kernel
theorem dX1_withSat_66 : decode cX1_withSat 66 = .ok (.idiv, 1) := by decide +kernel
theorem dX1_withSat_67 : decode cX1_withSat 67 = .ok (.invokestatic 60, 3) := by decide +kernel
theorem dX1_withSat_70 : decode cX1_withSat 70 = .ok (.ireturn, 1) := by decide +kernel
theorem dX1_withLum_0 : decode cX1_withLum 0 = .ok (.iload_n 1, 1) := by decide +kernel
theorem dX1_withLum_1 : decode cX1_withLum 1 = .ok (.iload_n 0, 1) := by decide +kernel
theorem dX1_withLum_2 : decode cX1_withLum 2 = .ok (.invokestatic 47, 3) := by decide +kernel
theorem dX1_withLum_5 : decode cX1_withLum 5 = .ok (.isub, 1) := by decide +kernel
theorem dX1_withLum_6 : decode cX1_withLum 6 = .ok (.istore_n 2, 1) := by decide +kernel
theorem dX1_withLum_7 : decode cX1_withLum 7 = .ok (.iload_n 0, 1) := by decide +kernel
theorem dX1_withLum_8 : decode cX1_withLum 8 = .ok (.iconst 0, 1) := by decide +kernel
theorem dX1_withLum_9 : decode cX1_withLum 9 = .ok (.invokestatic 53, 3) := by decide +kernel
theorem dX1_withLum_12 : decode cX1_withLum 12 = .ok (.iload_n 2, 1) := by decide +kernel
theorem dX1_withLum_13 : decode cX1_withLum 13 = .ok (.iadd, 1) := by decide +kernel
theorem dX1_withLum_14 : decode cX1_withLum 14 = .ok (.istore_n 3, 1) := by decide +kernel
theorem dX1_withLum_15 : decode cX1_withLum 15 = .ok (.iload_n 0, 1) := by decide +kernel
theorem dX1_withLum_16 : decode cX1_withLum 16 = .ok (.iconst 1, 1) := by decide +kernel
theorem dX1_withLum_17 : decode cX1_withLum 17 = .ok (.invokestatic 53, 3) := by decide +kernel
theorem dX1_withLum_20 : decode cX1_withLum 20 = .ok (.iload_n 2, 1) := by decide +kernel
theorem dX1_withLum_21 : decode cX1_withLum 21 = .ok (.iadd, 1) := by decide +kernel
theorem dX1_withLum_22 : decode cX1_withLum 22 = .ok (.istore 4, 2) := by decide +kernel
theorem dX1_withLum_24 : decode cX1_withLum 24 = .ok (.iload_n 0, 1) := by decide +kernel
theorem dX1_withLum_25 : decode cX1_withLum 25 = .ok (.iconst 2, 1) := by decide +kernel
theorem dX1_withLum_26 : decode cX1_withLum 26 = .ok (.invokestatic 53, 3) := by decide +kernel
theorem dX1_withLum_29 : decode cX1_withLum 29 = .ok (.iload_n 2, 1) := by decide +kernel
theorem dX1_withLum_30 : decode cX1_withLum 30 = .ok (.iadd, 1) := by decide +kernel
theorem dX1_withLum_31 : decode cX1_withLum 31 = .ok (.istore 5, 2) := by decide +kernel
theorem dX1_withLum_33 : decode cX1_withLum 33 = .ok (.iload_n 3, 1) := by decide +kernel
theorem dX1_withLum_34 : decode cX1_withLum 34 = .ok (.iload 4, 2) := by decide +kernel
theorem dX1_withLum_36 : decode cX1_withLum 36 = .ok (.iload 5, 2) := by decide +kernel
theorem dX1_withLum_38 : decode cX1_withLum 38 = .ok (.invokestatic 66, 3) := by decide +kernel
theorem dX1_withLum_41 : decode cX1_withLum 41 = .ok (.istore 6, 2) := by decide +kernel
theorem dX1_withLum_43 : decode cX1_withLum 43 = .ok (.iload_n 3, 1) := by decide +kernel
theorem dX1_withLum_44 : decode cX1_withLum 44 = .ok (.iload 4, 2) := by decide +kernel
theorem dX1_withLum_46 : decode cX1_withLum 46 = .ok (.iload 5, 2) := by decide +kernel
theorem dX1_withLum_48 : decode cX1_withLum 48 = .ok (.invokestatic 72, 3) := by decide +kernel
theorem dX1_withLum_51 : decode cX1_withLum 51 = .ok (.istore 7, 2) := by decide +kernel
theorem dX1_withLum_53 : decode cX1_withLum 53 = .ok (.iload_n 3, 1) := by decide +kernel
theorem dX1_withLum_54 : decode cX1_withLum 54 = .ok (.iload 4, 2) := by decide +kernel
theorem dX1_withLum_56 : decode cX1_withLum 56 = .ok (.iload 5, 2) := by decide +kernel
theorem dX1_withLum_58 : decode cX1_withLum 58 = .ok (.invokestatic 69, 3) := by decide +kernel
theorem dX1_withLum_61 : decode cX1_withLum 61 = .ok (.istore 8, 2) := by decide +kernel
theorem dX1_withLum_63 : decode cX1_withLum 63 = .ok (.iload_n 3, 1) := by decide +kernel
theorem dX1_withLum_64 : decode cX1_withLum 64 = .ok (.iload 6, 2) := by decide +kernel
theorem dX1_withLum_66 : decode cX1_withLum 66 = .ok (.iload 7, 2) := by decide +kernel
theorem dX1_withLum_68 : decode cX1_withLum 68 = .ok (.iload 8, 2) := by decide +kernel
theorem dX1_withLum_70 : decode cX1_withLum 70 = .ok (.invokestatic 75, 3) := by decide +kernel
theorem dX1_withLum_73 : decode cX1_withLum 73 = .ok (.iload 4, 2) := by decide +kernel
theorem dX1_withLum_75 : decode cX1_withLum 75 = .ok (.iload 6, 2) := by decide +kernel
theorem dX1_withLum_77 : decode cX1_withLum 77 = .ok (.iload 7, 2) := by decide +kernel
theorem dX1_withLum_79 : decode cX1_withLum 79 = .ok (.iload 8, 2) := by decide +kernel
theorem dX1_withLum_81 : decode cX1_withLum 81 = .ok (.invokestatic 75, 3) := by decide +kernel
theorem dX1_withLum_84 : decode cX1_withLum 84 = .ok (.iload 5, 2) := by decide +kernel
theorem dX1_withLum_86 : decode cX1_withLum 86 = .ok (.iload 6, 2) := by decide +kernel
theorem dX1_withLum_88 : decode cX1_withLum 88 = .ok (.iload 7, 2) := by decide +kernel
theorem dX1_withLum_90 : decode cX1_withLum 90 = .ok (.iload 8, 2) := by decide +kernel
theorem dX1_withLum_92 : decode cX1_withLum 92 = .ok (.invokestatic 75, 3) := by decide +kernel
theorem dX1_withLum_95 : decode cX1_withLum 95 = .ok (.invokestatic 60, 3) := by decide +kernel
theorem dX1_withLum_98 : decode cX1_withLum 98 = .ok (.ireturn, 1) := by decide +kernel
theorem dX1_drawnIn_0 : decode cX1_drawnIn 0 = .ok (.iload_n 0, 1) := by decide +kernel
theorem dX1_drawnIn_1 : decode cX1_drawnIn 1 = .ok (.istore 4, 2) := by decide +kernel
theorem dX1_drawnIn_3 : decode cX1_drawnIn 3 = .ok (.iload_n 2, 1) := by decide +kernel
theorem dX1_drawnIn_4 : decode cX1_drawnIn 4 = .ok (.ifCond .ge 24, 3) := by decide +kernel
theorem dX1_drawnIn_7 : decode cX1_drawnIn 7 = .ok (.iload_n 2, 1) := by decide +kernel
theorem dX1_drawnIn_8 : decode cX1_drawnIn 8 = .ok (.iload_n 1, 1) := by decide +kernel
theorem dX1_drawnIn_9 : decode cX1_drawnIn 9 = .ok (.if_icmp .ge 19, 3) := by decide +kernel
theorem dX1_drawnIn_12 : decode cX1_drawnIn 12 = .ok (.iload_n 1, 1) := by decide +kernel
theorem dX1_drawnIn_13 : decode cX1_drawnIn 13 = .ok (.iload 4, 2) := by decide +kernel
theorem dX1_drawnIn_15 : decode cX1_drawnIn 15 = .ok (.iload_n 1, 1) := by decide +kernel
theorem dX1_drawnIn_16 : decode cX1_drawnIn 16 = .ok (.isub, 1) := by decide +kernel
theorem dX1_drawnIn_17 : decode cX1_drawnIn 17 = .ok (.iload_n 1, 1) := by decide +kernel
theorem dX1_drawnIn_18 : decode cX1_drawnIn 18 = .ok (.imul, 1) := by decide +kernel
theorem dX1_drawnIn_19 : decode cX1_drawnIn 19 = .ok (.iload_n 1, 1) := by decide +kernel
theorem dX1_drawnIn_20 : decode cX1_drawnIn 20 = .ok (.iload_n 2, 1) := by decide +kernel
theorem dX1_drawnIn_21 : decode cX1_drawnIn 21 = .ok (.isub, 1) := by decide +kernel
theorem dX1_drawnIn_22 : decode cX1_drawnIn 22 = .ok (.invokestatic 79, 3) := by decide +kernel
theorem dX1_drawnIn_25 : decode cX1_drawnIn 25 = .ok (.iadd, 1) := by decide +kernel
theorem dX1_drawnIn_26 : decode cX1_drawnIn 26 = .ok (.istore 4, 2) := by decide +kernel
theorem dX1_drawnIn_28 : decode cX1_drawnIn 28 = .ok (.iload_n 3, 1) := by decide +kernel
theorem dX1_drawnIn_29 : decode cX1_drawnIn 29 = .ok (.sipush 255, 3) := by decide +kernel
theorem dX1_drawnIn_32 : decode cX1_drawnIn 32 = .ok (.if_icmp .le 28, 3) := by decide +kernel
theorem dX1_drawnIn_35 : decode cX1_drawnIn 35 = .ok (.iload_n 3, 1) := by decide +kernel
theorem dX1_drawnIn_36 : decode cX1_drawnIn 36 = .ok (.iload_n 1, 1) := by decide +kernel
theorem dX1_drawnIn_37 : decode cX1_drawnIn 37 = .ok (.if_icmp .le 23, 3) := by decide +kernel
theorem dX1_drawnIn_40 : decode cX1_drawnIn 40 = .ok (.iload_n 1, 1) := by decide +kernel
theorem dX1_drawnIn_41 : decode cX1_drawnIn 41 = .ok (.iload 4, 2) := by decide +kernel
theorem dX1_drawnIn_43 : decode cX1_drawnIn 43 = .ok (.iload_n 1, 1) := by decide +kernel
theorem dX1_drawnIn_44 : decode cX1_drawnIn 44 = .ok (.isub, 1) := by decide +kernel
theorem dX1_drawnIn_45 : decode cX1_drawnIn 45 = .ok (.sipush 255, 3) := by decide +kernel
theorem dX1_drawnIn_48 : decode cX1_drawnIn 48 = .ok (.iload_n 1, 1) := by decide +kernel
theorem dX1_drawnIn_49 : decode cX1_drawnIn 49 = .ok (.isub, 1) := by decide +kernel
theorem dX1_drawnIn_50 : decode cX1_drawnIn 50 = .ok (.imul, 1) := by decide +kernel
theorem dX1_drawnIn_51 : decode cX1_drawnIn 51 = .ok (.iload_n 3, 1) := by decide +kernel
theorem dX1_drawnIn_52 : decode cX1_drawnIn 52 = .ok (.iload_n 1, 1) := by decide +kernel
theorem dX1_drawnIn_53 : decode cX1_drawnIn 53 = .ok (.isub, 1) := by decide +kernel
theorem dX1_drawnIn_54 : decode cX1_drawnIn 54 = .ok (.invokestatic 79, 3) := by decide +kernel
theorem dX1_drawnIn_57 : decode cX1_drawnIn 57 = .ok (.iadd, 1) := by decide +kernel
theorem dX1_drawnIn_58 : decode cX1_drawnIn 58 = .ok (.istore 4, 2) := by decide +kernel
theorem dX1_drawnIn_60 : decode cX1_drawnIn 60 = .ok (.iload 4, 2) := by decide +kernel
theorem dX1_drawnIn_62 : decode cX1_drawnIn 62 = .ok (.invokestatic 82, 3) := by decide +kernel
theorem dX1_drawnIn_65 : decode cX1_drawnIn 65 = .ok (.ireturn, 1) := by decide +kernel
theorem dX2_mul_0 : decode cX2_mul 0 = .ok (.iload_n 0, 1) := by decide +kernel
theorem dX2_mul_1 : decode cX2_mul 1 = .ok (.iload_n 1, 1) := by decide +kernel
theorem dX2_mul_2 : decode cX2_mul 2 = .ok (.imul, 1) := by decide +kernel
theorem dX2_mul_3 : decode cX2_mul 3 = .ok (.bipush 127, 2) := by decide +kernel
theorem dX2_mul_5 : decode cX2_mul 5 = .ok (.iadd, 1) := by decide +kernel
theorem dX2_mul_6 : decode cX2_mul 6 = .ok (.sipush 255, 3) := by decide +kernel
theorem dX2_mul_9 : decode cX2_mul 9 = .ok (.idiv, 1) := by decide +kernel
theorem dX2_mul_10 : decode cX2_mul 10 = .ok (.ireturn, 1) := by decide +kernel
theorem dX2_union_0 : decode cX2_union 0 = .ok (.iload_n 0, 1) := by decide +kernel
theorem dX2_union_1 : decode cX2_union 1 = .ok (.iload_n 1, 1) := by decide +kernel
theorem dX2_union_2 : decode cX2_union 2 = .ok (.iadd, 1) := by decide +kernel
theorem dX2_union_3 : decode cX2_union 3 = .ok (.iload_n 0, 1) := by decide +kernel
theorem dX2_union_4 : decode cX2_union 4 = .ok (.iload_n 1, 1) := by decide +kernel
theorem dX2_union_5 : decode cX2_union 5 = .ok (.invokestatic 9, 3) := by decide +kernel
theorem dX2_union_8 : decode cX2_union 8 = .ok (.isub, 1) := by decide +kernel
theorem dX2_union_9 : decode cX2_union 9 = .ok (.ireturn, 1) := by decide +kernel
theorem dX2_within_0 : decode cX2_within 0 = .ok (.iconst 0, 1) := by decide +kernel
theorem dX2_within_1 : decode cX2_within 1 = .ok (.sipush 255, 3) := by decide +kernel
theorem dX2_within_4 : decode cX2_within 4 = .ok (.iload_n 0, 1) := by decide +kernel
theorem dX2_within_5 : decode cX2_within 5 = .ok (.invokestatic 15, 3) := by decide +kernel
theorem dX2_within_8 : decode cX2_within 8 = .ok (.invokestatic 20, 3) := by decide +kernel
theorem dX2_within_11 : decode cX2_within 11 = .ok (.ireturn, 1) := by decide +kernel
theorem dX2_nearest_0 : decode cX2_nearest 0 = .ok (.iload_n 1, 1) := by decide +kernel
theorem dX2_nearest_1 : decode cX2_nearest 1 = .ok (.ifCond .gt 5, 3) := by decide +kernel
theorem dX2_nearest_4 : decode cX2_nearest 4 = .ok (.iconst 0, 1) := by decide +kernel
theorem dX2_nearest_5 : decode cX2_nearest 5 = .ok (.ireturn, 1) := by decide +kernel
theorem dX2_nearest_6 : decode cX2_nearest 6 = .ok (.sipush 255, 3) := by decide +kernel
theorem dX2_nearest_9 : decode cX2_nearest 9 = .ok (.iload_n 0, 1) := by decide +kernel
theorem dX2_nearest_10 : decode cX2_nearest 10 = .ok (.iload_n 1, 1) := by decide +kernel
theorem dX2_nearest_11 : decode cX2_nearest 11 = .ok (.iconst 2, 1) := by decide +kernel
theorem dX2_nearest_12 : decode cX2_nearest 12 = .ok (.idiv, 1) := by decide +kernel
theorem dX2_nearest_13 : decode cX2_nearest 13 = .ok (.iadd, 1) := by decide +kernel
theorem dX2_nearest_14 : decode cX2_nearest 14 = .ok (.iload_n 1, 1) := by decide +kernel
theorem dX2_nearest_15 : decode cX2_nearest 15 = .ok (.idiv, 1) := by decide +kernel
theorem dX2_nearest_16 : decode cX2_nearest 16 = .ok (.invokestatic 15, 3) := by decide +kernel
theorem dX2_nearest_19 : decode cX2_nearest 19 = .ok (.ireturn, 1) := by decide +kernel
theorem dX2_bandOf_0 : decode cX2_bandOf 0 = .ok (.iload_n 0, 1) := by decide +kernel
theorem dX2_bandOf_1 : decode cX2_bandOf 1 = .ok (.bipush 8, 2) := by decide +kernel
theorem dX2_bandOf_3 : decode cX2_bandOf 3 = .ok (.iload_n 1, 1) := by decide +kernel
theorem dX2_bandOf_4 : decode cX2_bandOf 4 = .ok (.imul, 1) := by decide +kernel
theorem dX2_bandOf_5 : decode cX2_bandOf 5 = .ok (.ishr, 1) := by decide +kernel
theorem dX2_bandOf_6 : decode cX2_bandOf 6 = .ok (.sipush 255, 3) := by decide +kernel
theorem dX2_bandOf_9 : decode cX2_bandOf 9 = .ok (.iand, 1) := by decide +kernel
theorem dX2_bandOf_10 : decode cX2_bandOf 10 = .ok (.ireturn, 1) := by decide +kernel
theorem dX2_packed_0 : decode cX2_packed 0 = .ok (.iload_n 0, 1) := by decide +kernel
theorem dX2_packed_1 : decode cX2_packed 1 = .ok (.iload_n 1, 1) := by decide +kernel
theorem dX2_packed_2 : decode cX2_packed 2 = .ok (.bipush 8, 2) := by decide +kernel
theorem dX2_packed_4 : decode cX2_packed 4 = .ok (.ishl, 1) := by decide +kernel
theorem dX2_packed_5 : decode cX2_packed 5 = .ok (.ior, 1) := by decide +kernel
theorem dX2_packed_6 : decode cX2_packed 6 = .ok (.iload_n 2, 1) := by decide +kernel
theorem dX2_packed_7 : decode cX2_packed 7 = .ok (.bipush 16, 2) := by decide +kernel
theorem dX2_packed_9 : decode cX2_packed 9 = .ok (.ishl, 1) := by decide +kernel
theorem dX2_packed_10 : decode cX2_packed 10 = .ok (.ior, 1) := by decide +kernel
theorem dX2_packed_11 : decode cX2_packed 11 = .ok (.ireturn, 1) := by decide +kernel
theorem dX2_lum_0 : decode cX2_lum 0 = .ok (.bipush 30, 2) := by decide +kernel
theorem dX2_lum_2 : decode cX2_lum 2 = .ok (.iload_n 0, 1) := by decide +kernel
theorem dX2_lum_3 : decode cX2_lum 3 = .ok (.imul, 1) := by decide +kernel
theorem dX2_lum_4 : decode cX2_lum 4 = .ok (.bipush 59, 2) := by decide +kernel
theorem dX2_lum_6 : decode cX2_lum 6 = .ok (.iload_n 1, 1) := by decide +kernel
theorem dX2_lum_7 : decode cX2_lum 7 = .ok (.imul, 1) := by decide +kernel
theorem dX2_lum_8 : decode cX2_lum 8 = .ok (.iadd, 1) := by decide +kernel
theorem dX2_lum_9 : decode cX2_lum 9 = .ok (.bipush 11, 2) := by decide +kernel
theorem dX2_lum_11 : decode cX2_lum 11 = .ok (.iload_n 2, 1) := by decide +kernel
theorem dX2_lum_12 : decode cX2_lum 12 = .ok (.imul, 1) := by decide +kernel
theorem dX2_lum_13 : decode cX2_lum 13 = .ok (.iadd, 1) := by decide +kernel
theorem dX2_lum_14 : decode cX2_lum 14 = .ok (.bipush 100, 2) := by decide +kernel
theorem dX2_lum_16 : decode cX2_lum 16 = .ok (.invokestatic 23, 3) := by decide +kernel
theorem dX2_lum_19 : decode cX2_lum 19 = .ok (.ireturn, 1) := by decide +kernel
theorem dX3_init_0 : decode cX3_init 0 = .ok (.aload_n 0, 1) := by decide +kernel
theorem dX3_init_1 : decode cX3_init 1 = .ok (.invokespecial 1, 3) := by decide +kernel
theorem dX3_init_4 : decode cX3_init 4 = .ok (.aload_n 0, 1) := by decide +kernel
theorem dX3_init_5 : decode cX3_init 5 = .ok (.iconst 1, 1) := by decide +kernel
theorem dX3_init_6 : decode cX3_init 6 = .ok (.bipush 12, 2) := by decide +kernel
theorem dX3_init_8 : decode cX3_init 8 = .ok (.iload_n 1, 1) := by decide +kernel
theorem dX3_init_9 : decode cX3_init 9 = .ok (.invokestatic 9, 3) := by decide +kernel
theorem dX3_init_12 : decode cX3_init 12 = .ok (.invokestatic 15, 3) := by decide +kernel
theorem dX3_init_15 : decode cX3_init 15 = .ok (.putfield 18, 3) := by decide +kernel
theorem dX3_init_18 : decode cX3_init 18 = .ok (.aload_n 0, 1) := by decide +kernel
theorem dX3_init_19 : decode cX3_init 19 = .ok (.iconst 1, 1) := by decide +kernel
theorem dX3_init_20 : decode cX3_init 20 = .ok (.bipush 12, 2) := by decide +kernel
theorem dX3_init_22 : decode cX3_init 22 = .ok (.iload_n 2, 1) := by decide +kernel
theorem dX3_init_23 : decode cX3_init 23 = .ok (.invokestatic 9, 3) := by decide +kernel
theorem dX3_init_26 : decode cX3_init 26 = .ok (.invokestatic 15, 3) := by decide +kernel
theorem dX3_init_29 : decode cX3_init 29 = .ok (.putfield 22, 3) := by decide +kernel
theorem dX3_init_32 : decode cX3_init 32 = .ok (.aload_n 0, 1) := by decide +kernel
theorem dX3_init_33 : decode cX3_init 33 = .ok (.aload_n 0, 1) := by decide +kernel
theorem dX3_init_34 : decode cX3_init 34 = .ok (.getfield 18, 3) := by decide +kernel
theorem dX3_init_37 : decode cX3_init 37 = .ok (.aload_n 0, 1) := by decide +kernel
theorem dX3_init_38 : decode cX3_init 38 = .ok (.getfield 22, 3) := by decide +kernel
theorem dX3_init_41 : decode cX3_init 41 = .ok (.imul, 1) := by decide +kernel
theorem dX3_init_42 : decode cX3_init 42 = .ok (.putfield 25, 3) := by decide +kernel
theorem dX3_init_45 : decode cX3_init 45 = .ok (.aload_n 0, 1) := by decide +kernel
theorem dX3_init_46 : decode cX3_init 46 = .ok (.aload_n 0, 1) := by decide +kernel
theorem dX3_init_47 : decode cX3_init 47 = .ok (.getfield 25, 3) := by decide +kernel
theorem dX3_init_50 : decode cX3_init 50 = .ok (.newarray .int, 2) := by decide +kernel
theorem dX3_init_52 : decode cX3_init 52 = .ok (.putfield 28, 3) := by decide +kernel
theorem dX3_init_55 : decode cX3_init 55 = .ok (.aload_n 0, 1) := by decide +kernel
theorem dX3_init_56 : decode cX3_init 56 = .ok (.aload_n 0, 1) := by decide +kernel
theorem dX3_init_57 : decode cX3_init 57 = .ok (.getfield 25, 3) := by decide +kernel
theorem dX3_init_60 : decode cX3_init 60 = .ok (.newarray .int, 2) := by decide +kernel
theorem dX3_init_62 : decode cX3_init 62 = .ok (.putfield 32, 3) := by decide +kernel
theorem dX3_init_65 : decode cX3_init 65 = .ok (.aload_n 0, 1) := by decide +kernel
theorem dX3_init_66 : decode cX3_init 66 = .ok (.bipush 6, 2) := by decide +kernel
theorem dX3_init_68 : decode cX3_init 68 = .ok (.anewarray 35, 3) := by decide +kernel
theorem dX3_init_71 : decode cX3_init 71 = .ok (.putfield 37, 3) := by decide +kernel
theorem dX3_init_74 : decode cX3_init 74 = .ok (.iconst 0, 1) := by decide +kernel
theorem dX3_init_75 : decode cX3_init 75 = .ok (.istore_n 3, 1) := by decide +kernel
theorem dX3_init_76 : decode cX3_init 76 = .ok (.iload_n 3, 1) := by decide +kernel
theorem dX3_init_77 : decode cX3_init 77 = .ok (.bipush 6, 2) := by decide +kernel
theorem dX3_init_79 : decode cX3_init 79 = .ok (.if_icmp .ge 26, 3) := by decide +kernel
theorem dX3_init_82 : decode cX3_init 82 = .ok (.aload_n 0, 1) := by decide +kernel
theorem dX3_init_83 : decode cX3_init 83 = .ok (.getfield 37, 3) := by decide +kernel
theorem dX3_init_86 : decode cX3_init 86 = .ok (.iload_n 3, 1) := by decide +kernel
theorem dX3_init_87 : decode cX3_init 87 = .ok (.new 35, 3) := by decide +kernel
theorem dX3_init_90 : decode cX3_init 90 = .ok (.dup, 1) := by decide +kernel
theorem dX3_init_91 : decode cX3_init 91 = .ok (.aload_n 0, 1) := by decide +kernel
theorem dX3_init_92 : decode cX3_init 92 = .ok (.getfield 25, 3) := by decide +kernel
theorem dX3_init_95 : decode cX3_init 95 = .ok (.invokespecial 41, 3) := by decide +kernel
theorem dX3_init_98 : decode cX3_init 98 = .ok (.aastore, 1) := by decide +kernel
theorem dX3_init_99 : decode cX3_init 99 = .ok (.iinc 3 1, 3) := by decide +kernel
theorem dX3_init_102 : decode cX3_init 102 = .ok (.goto (-26), 3) := by decide +kernel
theorem dX3_init_105 : decode cX3_init 105 = .ok (.iconst 0, 1) := by decide +kernel
theorem dX3_init_106 : decode cX3_init 106 = .ok (.istore_n 3, 1) := by decide +kernel
theorem dX3_init_107 : decode cX3_init 107 = .ok (.iload_n 3, 1) := by decide +kernel
theorem dX3_init_108 : decode cX3_init 108 = .ok (.aload_n 0, 1) := by decide +kernel
theorem dX3_init_109 : decode cX3_init 109 = .ok (.getfield 25, 3) := by decide +kernel
theorem dX3_init_112 : decode cX3_init 112 = .ok (.if_icmp .ge 18, 3) := by decide +kernel
theorem dX3_init_115 : decode cX3_init 115 = .ok (.aload_n 0, 1) := by decide +kernel
theorem dX3_init_116 : decode cX3_init 116 = .ok (.getfield 28, 3) := by decide +kernel
theorem dX3_init_119 : decode cX3_init 119 = .ok (.iload_n 3, 1) := by decide +kernel
theorem dX3_init_120 : decode cX3_init 120 = .ok (.sipush 255, 3) := by decide +kernel
theorem dX3_init_123 : decode cX3_init 123 = .ok (.iastore, 1) := by decide +kernel
theorem dX3_init_124 : decode cX3_init 124 = .ok (.iinc 3 1, 3) := by decide +kernel
theorem dX3_init_127 : decode cX3_init 127 = .ok (.goto (-20), 3) := by decide +kernel
theorem dX3_init_130 : decode cX3_init 130 = .ok (.aload_n 0, 1) := by decide +kernel
theorem dX3_init_131 : decode cX3_init 131 = .ok (.bipush 6, 2) := by decide +kernel
theorem dX3_init_133 : decode cX3_init 133 = .ok (.putfield 44, 3) := by decide +kernel
theorem dX3_init_136 : decode cX3_init 136 = .ok (.aload_n 0, 1) := by decide +kernel
theorem dX3_init_137 : decode cX3_init 137 = .ok (.iconst 1, 1) := by decide +kernel
theorem dX3_init_138 : decode cX3_init 138 = .ok (.putfield 47, 3) := by decide +kernel
theorem dX3_init_141 : decode cX3_init 141 = .ok (.aload_n 0, 1) := by decide +kernel
theorem dX3_init_142 : decode cX3_init 142 = .ok (.iconst 1, 1) := by decide +kernel
theorem dX3_init_143 : decode cX3_init 143 = .ok (.putfield 50, 3) := by decide +kernel
theorem dX3_init_146 : decode cX3_init 146 = .ok (.return_, 1) := by decide +kernel
theorem dX3_told_0 : decode cX3_told 0 = .ok (.iload_n 1, 1) := by decide +kernel
theorem dX3_told_1 : decode cX3_told 1 = .ok (.tableswitch 77 0 5 #[39, 44, 49, 54, 59, 72], 39) := by decide +kernel
theorem dX3_told_40 : decode cX3_told 40 = .ok (.aload_n 0, 1) := by decide +kernel
theorem dX3_told_41 : decode cX3_told 41 = .ok (.getfield 18, 3) := by decide +kernel
theorem dX3_told_44 : decode cX3_told 44 = .ok (.ireturn, 1) := by decide +kernel
theorem dX3_told_45 : decode cX3_told 45 = .ok (.aload_n 0, 1) := by decide +kernel
theorem dX3_told_46 : decode cX3_told 46 = .ok (.getfield 22, 3) := by decide +kernel
theorem dX3_told_49 : decode cX3_told 49 = .ok (.ireturn, 1) := by decide +kernel
theorem dX3_told_50 : decode cX3_told 50 = .ok (.aload_n 0, 1) := by decide +kernel
theorem dX3_told_51 : decode cX3_told 51 = .ok (.getfield 47, 3) := by decide +kernel
theorem dX3_told_54 : decode cX3_told 54 = .ok (.ireturn, 1) := by decide +kernel
theorem dX3_told_55 : decode cX3_told 55 = .ok (.aload_n 0, 1) := by decide +kernel
theorem dX3_told_56 : decode cX3_told 56 = .ok (.getfield 44, 3) := by decide +kernel
theorem dX3_told_59 : decode cX3_told 59 = .ok (.ireturn, 1) := by decide +kernel
theorem dX3_told_60 : decode cX3_told 60 = .ok (.aload_n 0, 1) := by decide +kernel
theorem dX3_told_61 : decode cX3_told 61 = .ok (.getfield 53, 3) := by decide +kernel
theorem dX3_told_64 : decode cX3_told 64 = .ok (.ifCond .eq 7, 3) := by decide +kernel
theorem dX3_told_67 : decode cX3_told 67 = .ok (.iconst 1, 1) := by decide +kernel
theorem dX3_told_68 : decode cX3_told 68 = .ok (.goto 4, 3) := by decide +kernel
theorem dX3_told_71 : decode cX3_told 71 = .ok (.iconst 0, 1) := by decide +kernel
theorem dX3_told_72 : decode cX3_told 72 = .ok (.ireturn, 1) := by decide +kernel
theorem dX3_told_73 : decode cX3_told 73 = .ok (.aload_n 0, 1) := by decide +kernel
theorem dX3_told_74 : decode cX3_told 74 = .ok (.getfield 57, 3) := by decide +kernel
theorem dX3_told_77 : decode cX3_told 77 = .ok (.ireturn, 1) := by decide +kernel
theorem dX3_told_78 : decode cX3_told 78 = .ok (.new 60, 3) := by decide +kernel
theorem dX3_told_81 : decode cX3_told 81 = .ok (.dup, 1) := by decide +kernel
theorem dX3_told_82 : decode cX3_told 82 = .ok (.ldc 62, 2) := by decide +kernel
theorem dX3_told_84 : decode cX3_told 84 = .ok (.invokespecial 64, 3) := by decide +kernel
theorem dX3_told_87 : decode cX3_told 87 = .ok (.athrow, 1) := by decide +kernel
theorem dX3_bound_0 : decode cX3_bound 0 = .ok (.iload_n 1, 1) := by decide +kernel
theorem dX3_bound_1 : decode cX3_bound 1 = .ok (.iconst 1, 1) := by decide +kernel
theorem dX3_bound_2 : decode cX3_bound 2 = .ok (.if_icmp .lt 9, 3) := by decide +kernel
theorem dX3_bound_5 : decode cX3_bound 5 = .ok (.iload_n 1, 1) := by decide +kernel
theorem dX3_bound_6 : decode cX3_bound 6 = .ok (.bipush 6, 2) := by decide +kernel
theorem dX3_bound_8 : decode cX3_bound 8 = .ok (.if_icmp .le 13, 3) := by decide +kernel
theorem dX3_bound_11 : decode cX3_bound 11 = .ok (.new 60, 3) := by decide +kernel
theorem dX3_bound_14 : decode cX3_bound 14 = .ok (.dup, 1) := by decide +kernel
theorem dX3_bound_15 : decode cX3_bound 15 = .ok (.ldc 67, 2) := by decide +kernel
theorem dX3_bound_17 : decode cX3_bound 17 = .ok (.invokespecial 64, 3) := by decide +kernel
theorem dX3_bound_20 : decode cX3_bound 20 = .ok (.athrow, 1) := by decide +kernel
theorem dX3_bound_21 : decode cX3_bound 21 = .ok (.aload_n 0, 1) := by decide +kernel
theorem dX3_bound_22 : decode cX3_bound 22 = .ok (.iload_n 1, 1) := by decide +kernel
theorem dX3_bound_23 : decode cX3_bound 23 = .ok (.putfield 44, 3) := by decide +kernel
theorem dX3_bound_26 : decode cX3_bound 26 = .ok (.return_, 1) := by decide +kernel
theorem dX3_group_0 : decode cX3_group 0 = .ok (.aload_n 0, 1) := by decide +kernel
theorem dX3_group_1 : decode cX3_group 1 = .ok (.getfield 47, 3) := by decide +kernel
theorem dX3_group_4 : decode cX3_group 4 = .ok (.bipush 40, 2) := by decide +kernel
theorem dX3_group_6 : decode cX3_group 6 = .ok (.if_icmp .lt 13, 3) := by decide +kernel
theorem dX3_group_9 : decode cX3_group 9 = .ok (.new 69, 3) := by decide +kernel
theorem dX3_group_12 : decode cX3_group 12 = .ok (.dup, 1) := by decide +kernel
theorem dX3_group_13 : decode cX3_group 13 = .ok (.ldc 71, 2) := by decide +kernel
theorem dX3_group_15 : decode cX3_group 15 = .ok (.invokespecial 73, 3) := by decide +kernel
theorem dX3_group_18 : decode cX3_group 18 = .ok (.athrow, 1) := by decide +kernel
theorem dX3_group_19 : decode cX3_group 19 = .ok (.aload_n 0, 1) := by decide +kernel
theorem dX3_group_20 : decode cX3_group 20 = .ok (.invokevirtual 74, 3) := by decide +kernel
theorem dX3_group_23 : decode cX3_group 23 = .ok (.ifCond .ne 14, 3) := by decide +kernel
theorem dX3_group_26 : decode cX3_group 26 = .ok (.aload_n 0, 1) := by decide +kernel
theorem dX3_group_27 : decode cX3_group 27 = .ok (.getfield 47, 3) := by decide +kernel
theorem dX3_group_30 : decode cX3_group 30 = .ok (.aload_n 0, 1) := by decide +kernel
theorem dX3_group_31 : decode cX3_group 31 = .ok (.getfield 44, 3) := by decide +kernel
theorem dX3_group_34 : decode cX3_group 34 = .ok (.if_icmp .lt 7, 3) := by decide +kernel
theorem dX3_group_37 : decode cX3_group 37 = .ok (.iconst 1, 1) := by decide +kernel
theorem dX3_group_38 : decode cX3_group 38 = .ok (.goto 4, 3) := by decide +kernel
theorem dX3_group_41 : decode cX3_group 41 = .ok (.iconst 0, 1) := by decide +kernel
theorem dX3_group_42 : decode cX3_group 42 = .ok (.istore_n 3, 1) := by decide +kernel
theorem dX3_group_43 : decode cX3_group 43 = .ok (.iload_n 3, 1) := by decide +kernel
theorem dX3_group_44 : decode cX3_group 44 = .ok (.ifCond .ne 31, 3) := by decide +kernel
theorem dX3_group_47 : decode cX3_group 47 = .ok (.aload_n 0, 1) := by decide +kernel
theorem dX3_group_48 : decode cX3_group 48 = .ok (.getfield 37, 3) := by decide +kernel
theorem dX3_group_51 : decode cX3_group 51 = .ok (.aload_n 0, 1) := by decide +kernel
theorem dX3_group_52 : decode cX3_group 52 = .ok (.getfield 50, 3) := by decide +kernel
theorem dX3_group_55 : decode cX3_group 55 = .ok (.aaload, 1) := by decide +kernel
theorem dX3_group_56 : decode cX3_group 56 = .ok (.aload_n 0, 1) := by decide +kernel
theorem dX3_group_57 : decode cX3_group 57 = .ok (.invokevirtual 78, 3) := by decide +kernel
theorem dX3_group_60 : decode cX3_group 60 = .ok (.iload_n 1, 1) := by decide +kernel
theorem dX3_group_61 : decode cX3_group 61 = .ok (.iload_n 2, 1) := by decide +kernel
theorem dX3_group_62 : decode cX3_group 62 = .ok (.invokevirtual 82, 3) := by decide +kernel
theorem dX3_group_65 : decode cX3_group 65 = .ok (.aload_n 0, 1) := by decide +kernel
theorem dX3_group_66 : decode cX3_group 66 = .ok (.dup, 1) := by decide +kernel
theorem dX3_group_67 : decode cX3_group 67 = .ok (.getfield 50, 3) := by decide +kernel
theorem dX3_group_70 : decode cX3_group 70 = .ok (.iconst 1, 1) := by decide +kernel
theorem dX3_group_71 : decode cX3_group 71 = .ok (.iadd, 1) := by decide +kernel
theorem dX3_group_72 : decode cX3_group 72 = .ok (.putfield 50, 3) := by decide +kernel
theorem dX3_group_75 : decode cX3_group 75 = .ok (.aload_n 0, 1) := by decide +kernel
theorem dX3_group_76 : decode cX3_group 76 = .ok (.dup, 1) := by decide +kernel
theorem dX3_group_77 : decode cX3_group 77 = .ok (.getfield 47, 3) := by decide +kernel
theorem dX3_group_80 : decode cX3_group 80 = .ok (.iconst 1, 1) := by decide +kernel
theorem dX3_group_81 : decode cX3_group 81 = .ok (.iadd, 1) := by decide +kernel
theorem dX3_group_82 : decode cX3_group 82 = .ok (.putfield 47, 3) := by decide +kernel
theorem dX3_group_85 : decode cX3_group 85 = .ok (.aload_n 0, 1) := by decide +kernel
theorem dX3_group_86 : decode cX3_group 86 = .ok (.getfield 47, 3) := by decide +kernel
theorem dX3_group_89 : decode cX3_group 89 = .ok (.ireturn, 1) := by decide +kernel
theorem dX3_end_0 : decode cX3_end 0 = .ok (.aload_n 0, 1) := by decide +kernel
theorem dX3_end_1 : decode cX3_end 1 = .ok (.invokevirtual 86, 3) := by decide +kernel
theorem dX3_end_4 : decode cX3_end 4 = .ok (.iload_n 1, 1) := by decide +kernel
theorem dX3_end_5 : decode cX3_end 5 = .ok (.bipush 15, 2) := by decide +kernel
theorem dX3_end_7 : decode cX3_end 7 = .ok (.invokestatic 89, 3) := by decide +kernel
theorem dX3_end_10 : decode cX3_end 10 = .ok (.iload_n 2, 1) := by decide +kernel
theorem dX3_end_11 : decode cX3_end 11 = .ok (.invokestatic 93, 3) := by decide +kernel
theorem dX3_end_14 : decode cX3_end 14 = .ok (.aload_n 0, 1) := by decide +kernel
theorem dX3_end_15 : decode cX3_end 15 = .ok (.invokevirtual 74, 3) := by decide +kernel
theorem dX3_end_18 : decode cX3_end 18 = .ok (.ifCond .ne 91, 3) := by decide +kernel
theorem dX3_end_21 : decode cX3_end 21 = .ok (.aload_n 0, 1) := by decide +kernel
theorem dX3_end_22 : decode cX3_end 22 = .ok (.invokevirtual 96, 3) := by decide +kernel
theorem dX3_end_25 : decode cX3_end 25 = .ok (.astore_n 3, 1) := by decide +kernel
theorem dX3_end_26 : decode cX3_end 26 = .ok (.iconst 0, 1) := by decide +kernel
theorem dX3_end_27 : decode cX3_end 27 = .ok (.istore 4, 2) := by decide +kernel
theorem dX3_end_29 : decode cX3_end 29 = .ok (.iload 4, 2) := by decide +kernel
theorem dX3_end_31 : decode cX3_end 31 = .ok (.aload_n 0, 1) := by decide +kernel
theorem dX3_end_32 : decode cX3_end 32 = .ok (.getfield 25, 3) := by decide +kernel
theorem dX3_end_35 : decode cX3_end 35 = .ok (.if_icmp .ge 64, 3) := by decide +kernel
theorem dX3_end_38 : decode cX3_end 38 = .ok (.aload_n 3, 1) := by decide +kernel
theorem dX3_end_39 : decode cX3_end 39 = .ok (.iload 4, 2) := by decide +kernel
theorem dX3_end_41 : decode cX3_end 41 = .ok (.invokevirtual 99, 3) := by decide +kernel
theorem dX3_end_44 : decode cX3_end 44 = .ok (.istore 5, 2) := by decide +kernel
theorem dX3_end_46 : decode cX3_end 46 = .ok (.aload_n 3, 1) := by decide +kernel
theorem dX3_end_47 : decode cX3_end 47 = .ok (.iload 4, 2) := by decide +kernel
theorem dX3_end_49 : decode cX3_end 49 = .ok (.invokevirtual 103, 3) := by decide +kernel
theorem dX3_end_52 : decode cX3_end 52 = .ok (.iload_n 2, 1) := by decide +kernel
theorem dX3_end_53 : decode cX3_end 53 = .ok (.invokestatic 106, 3) := by decide +kernel
theorem dX3_end_56 : decode cX3_end 56 = .ok (.iload 5, 2) := by decide +kernel
theorem dX3_end_58 : decode cX3_end 58 = .ok (.invokestatic 9, 3) := by decide +kernel
theorem dX3_end_61 : decode cX3_end 61 = .ok (.istore 6, 2) := by decide +kernel
theorem dX3_end_63 : decode cX3_end 63 = .ok (.aload_n 0, 1) := by decide +kernel
theorem dX3_end_64 : decode cX3_end 64 = .ok (.invokevirtual 78, 3) := by decide +kernel
theorem dX3_end_67 : decode cX3_end 67 = .ok (.iload 4, 2) := by decide +kernel
theorem dX3_end_69 : decode cX3_end 69 = .ok (.aload_n 3, 1) := by decide +kernel
theorem dX3_end_70 : decode cX3_end 70 = .ok (.iload 4, 2) := by decide +kernel
theorem dX3_end_72 : decode cX3_end 72 = .ok (.invokevirtual 111, 3) := by decide +kernel
theorem dX3_end_75 : decode cX3_end 75 = .ok (.iload 5, 2) := by decide +kernel
theorem dX3_end_77 : decode cX3_end 77 = .ok (.aload_n 0, 1) := by decide +kernel
theorem dX3_end_78 : decode cX3_end 78 = .ok (.iload 4, 2) := by decide +kernel
theorem dX3_end_80 : decode cX3_end 80 = .ok (.iload 6, 2) := by decide +kernel
theorem dX3_end_82 : decode cX3_end 82 = .ok (.invokevirtual 114, 3) := by decide +kernel
theorem dX3_end_85 : decode cX3_end 85 = .ok (.iload_n 1, 1) := by decide +kernel
theorem dX3_end_86 : decode cX3_end 86 = .ok (.aload_n 0, 1) := by decide +kernel
theorem dX3_end_87 : decode cX3_end 87 = .ok (.getfield 117, 3) := by decide +kernel
theorem dX3_end_90 : decode cX3_end 90 = .ok (.invokevirtual 120, 3) := by decide +kernel
theorem dX3_end_93 : decode cX3_end 93 = .ok (.iinc 4 1, 3) := by decide +kernel
theorem dX3_end_96 : decode cX3_end 96 = .ok (.goto (-67), 3) := by decide +kernel
theorem dX3_end_99 : decode cX3_end 99 = .ok (.aload_n 0, 1) := by decide +kernel
theorem dX3_end_100 : decode cX3_end 100 = .ok (.dup, 1) := by decide +kernel
theorem dX3_end_101 : decode cX3_end 101 = .ok (.getfield 57, 3) := by decide +kernel
theorem dX3_end_104 : decode cX3_end 104 = .ok (.iconst 1, 1) := by decide +kernel
theorem dX3_end_105 : decode cX3_end 105 = .ok (.iadd, 1) := by decide +kernel
theorem dX3_end_106 : decode cX3_end 106 = .ok (.putfield 57, 3) := by decide +kernel
theorem dX3_end_109 : decode cX3_end 109 = .ok (.aload_n 0, 1) := by decide +kernel
theorem dX3_end_110 : decode cX3_end 110 = .ok (.dup, 1) := by decide +kernel
theorem dX3_end_111 : decode cX3_end 111 = .ok (.getfield 47, 3) := by decide +kernel
theorem dX3_end_114 : decode cX3_end 114 = .ok (.iconst 1, 1) := by decide +kernel
theorem dX3_end_115 : decode cX3_end 115 = .ok (.isub, 1) := by decide +kernel
theorem dX3_end_116 : decode cX3_end 116 = .ok (.putfield 47, 3) := by decide +kernel
theorem dX3_end_119 : decode cX3_end 119 = .ok (.aload_n 0, 1) := by decide +kernel
theorem dX3_end_120 : decode cX3_end 120 = .ok (.getfield 47, 3) := by decide +kernel
theorem dX3_end_123 : decode cX3_end 123 = .ok (.ireturn, 1) := by decide +kernel
theorem dX3_mask_0 : decode cX3_mask 0 = .ok (.aload_n 0, 1) := by decide +kernel
theorem dX3_mask_1 : decode cX3_mask 1 = .ok (.invokevirtual 86, 3) := by decide +kernel
theorem dX3_mask_4 : decode cX3_mask 4 = .ok (.iload_n 1, 1) := by decide +kernel
theorem dX3_mask_5 : decode cX3_mask 5 = .ok (.iconst 1, 1) := by decide +kernel
theorem dX3_mask_6 : decode cX3_mask 6 = .ok (.if_icmp .eq 18, 3) := by decide +kernel
theorem dX3_mask_9 : decode cX3_mask 9 = .ok (.iload_n 1, 1) := by decide +kernel
theorem dX3_mask_10 : decode cX3_mask 10 = .ok (.iconst 2, 1) := by decide +kernel
theorem dX3_mask_11 : decode cX3_mask 11 = .ok (.if_icmp .eq 13, 3) := by decide +kernel
theorem dX3_mask_14 : decode cX3_mask 14 = .ok (.new 60, 3) := by decide +kernel
theorem dX3_mask_17 : decode cX3_mask 17 = .ok (.dup, 1) := by decide +kernel
theorem dX3_mask_18 : decode cX3_mask 18 = .ok (.ldc 124, 2) := by decide +kernel
theorem dX3_mask_20 : decode cX3_mask 20 = .ok (.invokespecial 64, 3) := by decide +kernel
theorem dX3_mask_23 : decode cX3_mask 23 = .ok (.athrow, 1) := by decide +kernel
theorem dX3_mask_24 : decode cX3_mask 24 = .ok (.aload_n 0, 1) := by decide +kernel
theorem dX3_mask_25 : decode cX3_mask 25 = .ok (.invokevirtual 74, 3) := by decide +kernel
theorem dX3_mask_28 : decode cX3_mask 28 = .ok (.ifCond .ne 75, 3) := by decide +kernel
theorem dX3_mask_31 : decode cX3_mask 31 = .ok (.aload_n 0, 1) := by decide +kernel
theorem dX3_mask_32 : decode cX3_mask 32 = .ok (.invokevirtual 96, 3) := by decide +kernel
theorem dX3_mask_35 : decode cX3_mask 35 = .ok (.astore_n 3, 1) := by decide +kernel
theorem dX3_mask_36 : decode cX3_mask 36 = .ok (.iconst 0, 1) := by decide +kernel
theorem dX3_mask_37 : decode cX3_mask 37 = .ok (.istore 4, 2) := by decide +kernel
theorem dX3_mask_39 : decode cX3_mask 39 = .ok (.iload 4, 2) := by decide +kernel
theorem dX3_mask_41 : decode cX3_mask 41 = .ok (.aload_n 0, 1) := by decide +kernel
theorem dX3_mask_42 : decode cX3_mask 42 = .ok (.getfield 25, 3) := by decide +kernel
theorem dX3_mask_45 : decode cX3_mask 45 = .ok (.if_icmp .ge 53, 3) := by decide +kernel
theorem dX3_mask_48 : decode cX3_mask 48 = .ok (.iload_n 1, 1) := by decide +kernel
theorem dX3_mask_49 : decode cX3_mask 49 = .ok (.iconst 1, 1) := by decide +kernel
theorem dX3_mask_50 : decode cX3_mask 50 = .ok (.if_icmp .ne 12, 3) := by decide +kernel
theorem dX3_mask_53 : decode cX3_mask 53 = .ok (.aload_n 3, 1) := by decide +kernel
theorem dX3_mask_54 : decode cX3_mask 54 = .ok (.iload 4, 2) := by decide +kernel
theorem dX3_mask_56 : decode cX3_mask 56 = .ok (.invokevirtual 103, 3) := by decide +kernel
theorem dX3_mask_59 : decode cX3_mask 59 = .ok (.goto 9, 3) := by decide +kernel
theorem dX3_mask_62 : decode cX3_mask 62 = .ok (.aload_n 3, 1) := by decide +kernel
theorem dX3_mask_63 : decode cX3_mask 63 = .ok (.iload 4, 2) := by decide +kernel
theorem dX3_mask_65 : decode cX3_mask 65 = .ok (.invokevirtual 126, 3) := by decide +kernel
theorem dX3_mask_68 : decode cX3_mask 68 = .ok (.istore 5, 2) := by decide +kernel
theorem dX3_mask_70 : decode cX3_mask 70 = .ok (.aload_n 0, 1) := by decide +kernel
theorem dX3_mask_71 : decode cX3_mask 71 = .ok (.getfield 32, 3) := by decide +kernel
theorem dX3_mask_74 : decode cX3_mask 74 = .ok (.iload 4, 2) := by decide +kernel
theorem dX3_mask_76 : decode cX3_mask 76 = .ok (.iload_n 2, 1) := by decide +kernel
theorem dX3_mask_77 : decode cX3_mask 77 = .ok (.ifCond .eq 12, 3) := by decide +kernel
theorem dX3_mask_80 : decode cX3_mask 80 = .ok (.sipush 255, 3) := by decide +kernel
theorem dX3_mask_83 : decode cX3_mask 83 = .ok (.iload 5, 2) := by decide +kernel
theorem dX3_mask_85 : decode cX3_mask 85 = .ok (.isub, 1) := by decide +kernel
theorem dX3_mask_86 : decode cX3_mask 86 = .ok (.goto 5, 3) := by decide +kernel
theorem dX3_mask_89 : decode cX3_mask 89 = .ok (.iload 5, 2) := by decide +kernel
theorem dX3_mask_91 : decode cX3_mask 91 = .ok (.iastore, 1) := by decide +kernel
theorem dX3_mask_92 : decode cX3_mask 92 = .ok (.iinc 4 1, 3) := by decide +kernel
theorem dX3_mask_95 : decode cX3_mask 95 = .ok (.goto (-56), 3) := by decide +kernel
theorem dX3_mask_98 : decode cX3_mask 98 = .ok (.aload_n 0, 1) := by decide +kernel
theorem dX3_mask_99 : decode cX3_mask 99 = .ok (.iconst 1, 1) := by decide +kernel
theorem dX3_mask_100 : decode cX3_mask 100 = .ok (.putfield 53, 3) := by decide +kernel
theorem dX3_mask_103 : decode cX3_mask 103 = .ok (.aload_n 0, 1) := by decide +kernel
theorem dX3_mask_104 : decode cX3_mask 104 = .ok (.dup, 1) := by decide +kernel
theorem dX3_mask_105 : decode cX3_mask 105 = .ok (.getfield 47, 3) := by decide +kernel
theorem dX3_mask_108 : decode cX3_mask 108 = .ok (.iconst 1, 1) := by decide +kernel
theorem dX3_mask_109 : decode cX3_mask 109 = .ok (.isub, 1) := by decide +kernel
theorem dX3_mask_110 : decode cX3_mask 110 = .ok (.putfield 47, 3) := by decide +kernel
theorem dX3_mask_113 : decode cX3_mask 113 = .ok (.aload_n 0, 1) := by decide +kernel
theorem dX3_mask_114 : decode cX3_mask 114 = .ok (.getfield 47, 3) := by decide +kernel
theorem dX3_mask_117 : decode cX3_mask 117 = .ok (.ireturn, 1) := by decide +kernel
theorem dX3_unmask_0 : decode cX3_unmask 0 = .ok (.aload_n 0, 1) := by decide +kernel
theorem dX3_unmask_1 : decode cX3_unmask 1 = .ok (.iconst 0, 1) := by decide +kernel
theorem dX3_unmask_2 : decode cX3_unmask 2 = .ok (.putfield 53, 3) := by decide +kernel
theorem dX3_unmask_5 : decode cX3_unmask 5 = .ok (.return_, 1) := by decide +kernel
theorem dX3_colour_0 : decode cX3_colour 0 = .ok (.iload_n 2, 1) := by decide +kernel
theorem dX3_colour_1 : decode cX3_colour 1 = .ok (.invokestatic 93, 3) := by decide +kernel
theorem dX3_colour_4 : decode cX3_colour 4 = .ok (.iload_n 1, 1) := by decide +kernel
theorem dX3_colour_5 : decode cX3_colour 5 = .ok (.invokestatic 129, 3) := by decide +kernel
theorem dX3_colour_8 : decode cX3_colour 8 = .ok (.aload_n 0, 1) := by decide +kernel
theorem dX3_colour_9 : decode cX3_colour 9 = .ok (.aload_n 0, 1) := by decide +kernel
theorem dX3_colour_10 : decode cX3_colour 10 = .ok (.getfield 132, 3) := by decide +kernel
theorem dX3_colour_13 : decode cX3_colour 13 = .ok (.sipush 255, 3) := by decide +kernel
theorem dX3_colour_16 : decode cX3_colour 16 = .ok (.bipush 8, 2) := by decide +kernel
theorem dX3_colour_18 : decode cX3_colour 18 = .ok (.iload_n 1, 1) := by decide +kernel
theorem dX3_colour_19 : decode cX3_colour 19 = .ok (.imul, 1) := by decide +kernel
theorem dX3_colour_20 : decode cX3_colour 20 = .ok (.ishl, 1) := by decide +kernel
theorem dX3_colour_21 : decode cX3_colour 21 = .ok (.iconst (-1), 1) := by decide +kernel
theorem dX3_colour_22 : decode cX3_colour 22 = .ok (.ixor, 1) := by decide +kernel
theorem dX3_colour_23 : decode cX3_colour 23 = .ok (.iand, 1) := by decide +kernel
theorem dX3_colour_24 : decode cX3_colour 24 = .ok (.iload_n 2, 1) := by decide +kernel
theorem dX3_colour_25 : decode cX3_colour 25 = .ok (.bipush 8, 2) := by decide +kernel
theorem dX3_colour_27 : decode cX3_colour 27 = .ok (.iload_n 1, 1) := by decide +kernel
theorem dX3_colour_28 : decode cX3_colour 28 = .ok (.imul, 1) := by decide +kernel
theorem dX3_colour_29 : decode cX3_colour 29 = .ok (.ishl, 1) := by decide +kernel
theorem dX3_colour_30 : decode cX3_colour 30 = .ok (.ior, 1) := by decide +kernel
theorem dX3_colour_31 : decode cX3_colour 31 = .ok (.putfield 132, 3) := by decide +kernel
theorem dX3_colour_34 : decode cX3_colour 34 = .ok (.return_, 1) := by decide +kernel
theorem dX3_stays_0 : decode cX3_stays 0 = .ok (.iload_n 1, 1) := by decide +kernel
theorem dX3_stays_1 : decode cX3_stays 1 = .ok (.invokestatic 129, 3) := by decide +kernel
theorem dX3_stays_4 : decode cX3_stays 4 = .ok (.iconst 1, 1) := by decide +kernel
theorem dX3_stays_5 : decode cX3_stays 5 = .ok (.iload_n 1, 1) := by decide +kernel
theorem dX3_stays_6 : decode cX3_stays 6 = .ok (.ishl, 1) := by decide +kernel
theorem dX3_stays_7 : decode cX3_stays 7 = .ok (.istore_n 3, 1) := by decide +kernel
theorem dX3_stays_8 : decode cX3_stays 8 = .ok (.aload_n 0, 1) := by decide +kernel
theorem dX3_stays_9 : decode cX3_stays 9 = .ok (.iload_n 2, 1) := by decide +kernel
theorem dX3_stays_10 : decode cX3_stays 10 = .ok (.ifCond .eq 12, 3) := by decide +kernel
theorem dX3_stays_13 : decode cX3_stays 13 = .ok (.aload_n 0, 1) := by decide +kernel
theorem dX3_stays_14 : decode cX3_stays 14 = .ok (.getfield 117, 3) := by decide +kernel
theorem dX3_stays_17 : decode cX3_stays 17 = .ok (.iload_n 3, 1) := by decide +kernel
theorem dX3_stays_18 : decode cX3_stays 18 = .ok (.ior, 1) := by decide +kernel
theorem dX3_stays_19 : decode cX3_stays 19 = .ok (.goto 11, 3) := by decide +kernel
theorem dX3_stays_22 : decode cX3_stays 22 = .ok (.aload_n 0, 1) := by decide +kernel
theorem dX3_stays_23 : decode cX3_stays 23 = .ok (.getfield 117, 3) := by decide +kernel
theorem dX3_stays_26 : decode cX3_stays 26 = .ok (.iload_n 3, 1) := by decide +kernel
theorem dX3_stays_27 : decode cX3_stays 27 = .ok (.iconst (-1), 1) := by decide +kernel
theorem dX3_stays_28 : decode cX3_stays 28 = .ok (.ixor, 1) := by decide +kernel
theorem dX3_stays_29 : decode cX3_stays 29 = .ok (.iand, 1) := by decide +kernel
theorem dX3_stays_30 : decode cX3_stays 30 = .ok (.putfield 117, 3) := by decide +kernel
theorem dX3_stays_33 : decode cX3_stays 33 = .ok (.return_, 1) := by decide +kernel
theorem dX3_cover_0 : decode cX3_cover 0 = .ok (.iload_n 3, 1) := by decide +kernel
theorem dX3_cover_1 : decode cX3_cover 1 = .ok (.invokestatic 93, 3) := by decide +kernel
theorem dX3_cover_4 : decode cX3_cover 4 = .ok (.aload_n 0, 1) := by decide +kernel
theorem dX3_cover_5 : decode cX3_cover 5 = .ok (.iload_n 1, 1) := by decide +kernel
theorem dX3_cover_6 : decode cX3_cover 6 = .ok (.iload_n 2, 1) := by decide +kernel
theorem dX3_cover_7 : decode cX3_cover 7 = .ok (.invokevirtual 135, 3) := by decide +kernel
theorem dX3_cover_10 : decode cX3_cover 10 = .ok (.aload_n 0, 1) := by decide +kernel
theorem dX3_cover_11 : decode cX3_cover 11 = .ok (.getfield 28, 3) := by decide +kernel
theorem dX3_cover_14 : decode cX3_cover 14 = .ok (.iload_n 2, 1) := by decide +kernel
theorem dX3_cover_15 : decode cX3_cover 15 = .ok (.aload_n 0, 1) := by decide +kernel
theorem dX3_cover_16 : decode cX3_cover 16 = .ok (.getfield 18, 3) := by decide +kernel
theorem dX3_cover_19 : decode cX3_cover 19 = .ok (.imul, 1) := by decide +kernel
theorem dX3_cover_20 : decode cX3_cover 20 = .ok (.iload_n 1, 1) := by decide +kernel
theorem dX3_cover_21 : decode cX3_cover 21 = .ok (.iadd, 1) := by decide +kernel
theorem dX3_cover_22 : decode cX3_cover 22 = .ok (.iload_n 3, 1) := by decide +kernel
theorem dX3_cover_23 : decode cX3_cover 23 = .ok (.iastore, 1) := by decide +kernel
theorem dX3_cover_24 : decode cX3_cover 24 = .ok (.return_, 1) := by decide +kernel
theorem dX3_fill_0 : decode cX3_fill 0 = .ok (.iload 5, 2) := by decide +kernel
theorem dX3_fill_2 : decode cX3_fill 2 = .ok (.invokestatic 93, 3) := by decide +kernel
theorem dX3_fill_5 : decode cX3_fill 5 = .ok (.iload_n 3, 1) := by decide +kernel
theorem dX3_fill_6 : decode cX3_fill 6 = .ok (.aload_n 0, 1) := by decide +kernel
theorem dX3_fill_7 : decode cX3_fill 7 = .ok (.getfield 18, 3) := by decide +kernel
theorem dX3_fill_10 : decode cX3_fill 10 = .ok (.iconst 1, 1) := by decide +kernel
theorem dX3_fill_11 : decode cX3_fill 11 = .ok (.isub, 1) := by decide +kernel
theorem dX3_fill_12 : decode cX3_fill 12 = .ok (.invokestatic 9, 3) := by decide +kernel
theorem dX3_fill_15 : decode cX3_fill 15 = .ok (.istore 6, 2) := by decide +kernel
theorem dX3_fill_17 : decode cX3_fill 17 = .ok (.iload 4, 2) := by decide +kernel
theorem dX3_fill_19 : decode cX3_fill 19 = .ok (.aload_n 0, 1) := by decide +kernel
theorem dX3_fill_20 : decode cX3_fill 20 = .ok (.getfield 22, 3) := by decide +kernel
theorem dX3_fill_23 : decode cX3_fill 23 = .ok (.iconst 1, 1) := by decide +kernel
theorem dX3_fill_24 : decode cX3_fill 24 = .ok (.isub, 1) := by decide +kernel
theorem dX3_fill_25 : decode cX3_fill 25 = .ok (.invokestatic 9, 3) := by decide +kernel
theorem dX3_fill_28 : decode cX3_fill 28 = .ok (.istore 7, 2) := by decide +kernel
theorem dX3_fill_30 : decode cX3_fill 30 = .ok (.iload_n 2, 1) := by decide +kernel
theorem dX3_fill_31 : decode cX3_fill 31 = .ok (.iconst 0, 1) := by decide +kernel
theorem dX3_fill_32 : decode cX3_fill 32 = .ok (.invokestatic 15, 3) := by decide +kernel
theorem dX3_fill_35 : decode cX3_fill 35 = .ok (.istore 8, 2) := by decide +kernel
theorem dX3_fill_37 : decode cX3_fill 37 = .ok (.iload 8, 2) := by decide +kernel
theorem dX3_fill_39 : decode cX3_fill 39 = .ok (.iload 7, 2) := by decide +kernel
theorem dX3_fill_41 : decode cX3_fill 41 = .ok (.if_icmp .gt 46, 3) := by decide +kernel
theorem dX3_fill_44 : decode cX3_fill 44 = .ok (.iload_n 1, 1) := by decide +kernel
theorem dX3_fill_45 : decode cX3_fill 45 = .ok (.iconst 0, 1) := by decide +kernel
theorem dX3_fill_46 : decode cX3_fill 46 = .ok (.invokestatic 15, 3) := by decide +kernel
theorem dX3_fill_49 : decode cX3_fill 49 = .ok (.istore 9, 2) := by decide +kernel
theorem dX3_fill_51 : decode cX3_fill 51 = .ok (.iload 9, 2) := by decide +kernel
theorem dX3_fill_53 : decode cX3_fill 53 = .ok (.iload 6, 2) := by decide +kernel
theorem dX3_fill_55 : decode cX3_fill 55 = .ok (.if_icmp .gt 26, 3) := by decide +kernel
theorem dX3_fill_58 : decode cX3_fill 58 = .ok (.aload_n 0, 1) := by decide +kernel
theorem dX3_fill_59 : decode cX3_fill 59 = .ok (.getfield 28, 3) := by decide +kernel
theorem dX3_fill_62 : decode cX3_fill 62 = .ok (.iload 8, 2) := by decide +kernel
theorem dX3_fill_64 : decode cX3_fill 64 = .ok (.aload_n 0, 1) := by decide +kernel
theorem dX3_fill_65 : decode cX3_fill 65 = .ok (.getfield 18, 3) := by decide +kernel
theorem dX3_fill_68 : decode cX3_fill 68 = .ok (.imul, 1) := by decide +kernel
theorem dX3_fill_69 : decode cX3_fill 69 = .ok (.iload 9, 2) := by decide +kernel
theorem dX3_fill_71 : decode cX3_fill 71 = .ok (.iadd, 1) := by decide +kernel
theorem dX3_fill_72 : decode cX3_fill 72 = .ok (.iload 5, 2) := by decide +kernel
theorem dX3_fill_74 : decode cX3_fill 74 = .ok (.iastore, 1) := by decide +kernel
theorem dX3_fill_75 : decode cX3_fill 75 = .ok (.iinc 9 1, 3) := by decide +kernel
theorem dX3_fill_78 : decode cX3_fill 78 = .ok (.goto (-27), 3) := by decide +kernel
theorem dX3_fill_81 : decode cX3_fill 81 = .ok (.iinc 8 1, 3) := by decide +kernel
theorem dX3_fill_84 : decode cX3_fill 84 = .ok (.goto (-47), 3) := by decide +kernel
theorem dX3_fill_87 : decode cX3_fill 87 = .ok (.return_, 1) := by decide +kernel
theorem dX3_mark_0 : decode cX3_mark 0 = .ok (.iload_n 1, 1) := by decide +kernel
theorem dX3_mark_1 : decode cX3_mark 1 = .ok (.bipush 15, 2) := by decide +kernel
theorem dX3_mark_3 : decode cX3_mark 3 = .ok (.invokestatic 89, 3) := by decide +kernel
theorem dX3_mark_6 : decode cX3_mark 6 = .ok (.iload_n 2, 1) := by decide +kernel
theorem dX3_mark_7 : decode cX3_mark 7 = .ok (.invokestatic 93, 3) := by decide +kernel
theorem dX3_mark_10 : decode cX3_mark 10 = .ok (.iload_n 3, 1) := by decide +kernel
theorem dX3_mark_11 : decode cX3_mark 11 = .ok (.invokestatic 93, 3) := by decide +kernel
theorem dX3_mark_14 : decode cX3_mark 14 = .ok (.aload_n 0, 1) := by decide +kernel
theorem dX3_mark_15 : decode cX3_mark 15 = .ok (.invokevirtual 78, 3) := by decide +kernel
theorem dX3_mark_18 : decode cX3_mark 18 = .ok (.astore 4, 2) := by decide +kernel
theorem dX3_mark_20 : decode cX3_mark 20 = .ok (.iconst 0, 1) := by decide +kernel
theorem dX3_mark_21 : decode cX3_mark 21 = .ok (.istore 5, 2) := by decide +kernel
theorem dX3_mark_23 : decode cX3_mark 23 = .ok (.iconst 0, 1) := by decide +kernel
theorem dX3_mark_24 : decode cX3_mark 24 = .ok (.istore 6, 2) := by decide +kernel
theorem dX3_mark_26 : decode cX3_mark 26 = .ok (.iload 6, 2) := by decide +kernel
theorem dX3_mark_28 : decode cX3_mark 28 = .ok (.aload_n 0, 1) := by decide +kernel
theorem dX3_mark_29 : decode cX3_mark 29 = .ok (.getfield 25, 3) := by decide +kernel
theorem dX3_mark_32 : decode cX3_mark 32 = .ok (.if_icmp .ge 64, 3) := by decide +kernel
theorem dX3_mark_35 : decode cX3_mark 35 = .ok (.aload_n 0, 1) := by decide +kernel
theorem dX3_mark_36 : decode cX3_mark 36 = .ok (.getfield 28, 3) := by decide +kernel
theorem dX3_mark_39 : decode cX3_mark 39 = .ok (.iload 6, 2) := by decide +kernel
theorem dX3_mark_41 : decode cX3_mark 41 = .ok (.iaload, 1) := by decide +kernel
theorem dX3_mark_42 : decode cX3_mark 42 = .ok (.iload_n 2, 1) := by decide +kernel
theorem dX3_mark_43 : decode cX3_mark 43 = .ok (.invokestatic 106, 3) := by decide +kernel
theorem dX3_mark_46 : decode cX3_mark 46 = .ok (.istore 7, 2) := by decide +kernel
theorem dX3_mark_48 : decode cX3_mark 48 = .ok (.aload_n 0, 1) := by decide +kernel
theorem dX3_mark_49 : decode cX3_mark 49 = .ok (.iload 6, 2) := by decide +kernel
theorem dX3_mark_51 : decode cX3_mark 51 = .ok (.iload 7, 2) := by decide +kernel
theorem dX3_mark_53 : decode cX3_mark 53 = .ok (.iload_n 3, 1) := by decide +kernel
theorem dX3_mark_54 : decode cX3_mark 54 = .ok (.invokestatic 106, 3) := by decide +kernel
theorem dX3_mark_57 : decode cX3_mark 57 = .ok (.invokevirtual 114, 3) := by decide +kernel
theorem dX3_mark_60 : decode cX3_mark 60 = .ok (.istore 8, 2) := by decide +kernel
theorem dX3_mark_62 : decode cX3_mark 62 = .ok (.aload 4, 2) := by decide +kernel
theorem dX3_mark_64 : decode cX3_mark 64 = .ok (.iload 6, 2) := by decide +kernel
theorem dX3_mark_66 : decode cX3_mark 66 = .ok (.aload_n 0, 1) := by decide +kernel
theorem dX3_mark_67 : decode cX3_mark 67 = .ok (.getfield 132, 3) := by decide +kernel
theorem dX3_mark_70 : decode cX3_mark 70 = .ok (.iload 7, 2) := by decide +kernel
theorem dX3_mark_72 : decode cX3_mark 72 = .ok (.iload 8, 2) := by decide +kernel
theorem dX3_mark_74 : decode cX3_mark 74 = .ok (.iload_n 1, 1) := by decide +kernel
theorem dX3_mark_75 : decode cX3_mark 75 = .ok (.aload_n 0, 1) := by decide +kernel
theorem dX3_mark_76 : decode cX3_mark 76 = .ok (.getfield 117, 3) := by decide +kernel
theorem dX3_mark_79 : decode cX3_mark 79 = .ok (.invokevirtual 120, 3) := by decide +kernel
theorem dX3_mark_82 : decode cX3_mark 82 = .ok (.iload 8, 2) := by decide +kernel
theorem dX3_mark_84 : decode cX3_mark 84 = .ok (.ifCond .le 6, 3) := by decide +kernel
theorem dX3_mark_87 : decode cX3_mark 87 = .ok (.iinc 5 1, 3) := by decide +kernel
theorem dX3_mark_90 : decode cX3_mark 90 = .ok (.iinc 6 1, 3) := by decide +kernel
theorem dX3_mark_93 : decode cX3_mark 93 = .ok (.goto (-67), 3) := by decide +kernel
theorem dX3_mark_96 : decode cX3_mark 96 = .ok (.aload_n 0, 1) := by decide +kernel
theorem dX3_mark_97 : decode cX3_mark 97 = .ok (.dup, 1) := by decide +kernel
theorem dX3_mark_98 : decode cX3_mark 98 = .ok (.getfield 57, 3) := by decide +kernel
theorem dX3_mark_101 : decode cX3_mark 101 = .ok (.iconst 1, 1) := by decide +kernel
theorem dX3_mark_102 : decode cX3_mark 102 = .ok (.iadd, 1) := by decide +kernel
theorem dX3_mark_103 : decode cX3_mark 103 = .ok (.putfield 57, 3) := by decide +kernel
theorem dX3_mark_106 : decode cX3_mark 106 = .ok (.iload 5, 2) := by decide +kernel
theorem dX3_mark_108 : decode cX3_mark 108 = .ok (.ireturn, 1) := by decide +kernel
theorem dX3_point_0 : decode cX3_point 0 = .ok (.aload_n 0, 1) := by decide +kernel
theorem dX3_point_1 : decode cX3_point 1 = .ok (.iload_n 1, 1) := by decide +kernel
theorem dX3_point_2 : decode cX3_point 2 = .ok (.iload_n 2, 1) := by decide +kernel
theorem dX3_point_3 : decode cX3_point 3 = .ok (.invokevirtual 135, 3) := by decide +kernel
theorem dX3_point_6 : decode cX3_point 6 = .ok (.iload_n 3, 1) := by decide +kernel
theorem dX3_point_7 : decode cX3_point 7 = .ok (.invokestatic 129, 3) := by decide +kernel
theorem dX3_point_10 : decode cX3_point 10 = .ok (.aload_n 0, 1) := by decide +kernel
theorem dX3_point_11 : decode cX3_point 11 = .ok (.invokevirtual 78, 3) := by decide +kernel
theorem dX3_point_14 : decode cX3_point 14 = .ok (.iload_n 2, 1) := by decide +kernel
theorem dX3_point_15 : decode cX3_point 15 = .ok (.aload_n 0, 1) := by decide +kernel
theorem dX3_point_16 : decode cX3_point 16 = .ok (.getfield 18, 3) := by decide +kernel
theorem dX3_point_19 : decode cX3_point 19 = .ok (.imul, 1) := by decide +kernel
theorem dX3_point_20 : decode cX3_point 20 = .ok (.iload_n 1, 1) := by decide +kernel
theorem dX3_point_21 : decode cX3_point 21 = .ok (.iadd, 1) := by decide +kernel
theorem dX3_point_22 : decode cX3_point 22 = .ok (.invokevirtual 138, 3) := by decide +kernel
theorem dX3_point_25 : decode cX3_point 25 = .ok (.iload_n 3, 1) := by decide +kernel
theorem dX3_point_26 : decode cX3_point 26 = .ok (.invokestatic 141, 3) := by decide +kernel
theorem dX3_point_29 : decode cX3_point 29 = .ok (.ireturn, 1) := by decide +kernel
theorem dX3_alpha_0 : decode cX3_alpha 0 = .ok (.aload_n 0, 1) := by decide +kernel
theorem dX3_alpha_1 : decode cX3_alpha 1 = .ok (.iload_n 1, 1) := by decide +kernel
theorem dX3_alpha_2 : decode cX3_alpha 2 = .ok (.iload_n 2, 1) := by decide +kernel
theorem dX3_alpha_3 : decode cX3_alpha 3 = .ok (.invokevirtual 135, 3) := by decide +kernel
theorem dX3_alpha_6 : decode cX3_alpha 6 = .ok (.iload_n 2, 1) := by decide +kernel
theorem dX3_alpha_7 : decode cX3_alpha 7 = .ok (.aload_n 0, 1) := by decide +kernel
theorem dX3_alpha_8 : decode cX3_alpha 8 = .ok (.getfield 18, 3) := by decide +kernel
theorem dX3_alpha_11 : decode cX3_alpha 11 = .ok (.imul, 1) := by decide +kernel
theorem dX3_alpha_12 : decode cX3_alpha 12 = .ok (.iload_n 1, 1) := by decide +kernel
theorem dX3_alpha_13 : decode cX3_alpha 13 = .ok (.iadd, 1) := by decide +kernel
theorem dX3_alpha_14 : decode cX3_alpha 14 = .ok (.istore 4, 2) := by decide +kernel
theorem dX3_alpha_16 : decode cX3_alpha 16 = .ok (.iload_n 3, 1) := by decide +kernel
theorem dX3_alpha_17 : decode cX3_alpha 17 = .ok (.tableswitch 94 0 4 #[35, 45, 55, 65, 86], 35) := by decide +kernel
theorem dX3_alpha_52 : decode cX3_alpha 52 = .ok (.aload_n 0, 1) := by decide +kernel
theorem dX3_alpha_53 : decode cX3_alpha 53 = .ok (.invokevirtual 78, 3) := by decide +kernel
theorem dX3_alpha_56 : decode cX3_alpha 56 = .ok (.iload 4, 2) := by decide +kernel
theorem dX3_alpha_58 : decode cX3_alpha 58 = .ok (.invokevirtual 103, 3) := by decide +kernel
theorem dX3_alpha_61 : decode cX3_alpha 61 = .ok (.ireturn, 1) := by decide +kernel
theorem dX3_alpha_62 : decode cX3_alpha 62 = .ok (.aload_n 0, 1) := by decide +kernel
theorem dX3_alpha_63 : decode cX3_alpha 63 = .ok (.invokevirtual 78, 3) := by decide +kernel
theorem dX3_alpha_66 : decode cX3_alpha 66 = .ok (.iload 4, 2) := by decide +kernel
theorem dX3_alpha_68 : decode cX3_alpha 68 = .ok (.invokevirtual 99, 3) := by decide +kernel
theorem dX3_alpha_71 : decode cX3_alpha 71 = .ok (.ireturn, 1) := by decide +kernel
theorem dX3_alpha_72 : decode cX3_alpha 72 = .ok (.aload_n 0, 1) := by decide +kernel
theorem dX3_alpha_73 : decode cX3_alpha 73 = .ok (.invokevirtual 78, 3) := by decide +kernel
theorem dX3_alpha_76 : decode cX3_alpha 76 = .ok (.iload 4, 2) := by decide +kernel
theorem dX3_alpha_78 : decode cX3_alpha 78 = .ok (.invokevirtual 144, 3) := by decide +kernel
theorem dX3_alpha_81 : decode cX3_alpha 81 = .ok (.ireturn, 1) := by decide +kernel
theorem dX3_alpha_82 : decode cX3_alpha 82 = .ok (.aload_n 0, 1) := by decide +kernel
theorem dX3_alpha_83 : decode cX3_alpha 83 = .ok (.getfield 53, 3) := by decide +kernel
theorem dX3_alpha_86 : decode cX3_alpha 86 = .ok (.ifCond .eq 13, 3) := by decide +kernel
theorem dX3_alpha_89 : decode cX3_alpha 89 = .ok (.aload_n 0, 1) := by decide +kernel
theorem dX3_alpha_90 : decode cX3_alpha 90 = .ok (.getfield 32, 3) := by decide +kernel
theorem dX3_alpha_93 : decode cX3_alpha 93 = .ok (.iload 4, 2) := by decide +kernel
theorem dX3_alpha_95 : decode cX3_alpha 95 = .ok (.iaload, 1) := by decide +kernel
theorem dX3_alpha_96 : decode cX3_alpha 96 = .ok (.goto 6, 3) := by decide +kernel
theorem dX3_alpha_99 : decode cX3_alpha 99 = .ok (.sipush 255, 3) := by decide +kernel
theorem dX3_alpha_102 : decode cX3_alpha 102 = .ok (.ireturn, 1) := by decide +kernel
theorem dX3_alpha_103 : decode cX3_alpha 103 = .ok (.aload_n 0, 1) := by decide +kernel
theorem dX3_alpha_104 : decode cX3_alpha 104 = .ok (.getfield 28, 3) := by decide +kernel
theorem dX3_alpha_107 : decode cX3_alpha 107 = .ok (.iload 4, 2) := by decide +kernel
theorem dX3_alpha_109 : decode cX3_alpha 109 = .ok (.iaload, 1) := by decide +kernel
theorem dX3_alpha_110 : decode cX3_alpha 110 = .ok (.ireturn, 1) := by decide +kernel
theorem dX3_alpha_111 : decode cX3_alpha 111 = .ok (.new 60, 3) := by decide +kernel
theorem dX3_alpha_114 : decode cX3_alpha 114 = .ok (.dup, 1) := by decide +kernel
theorem dX3_alpha_115 : decode cX3_alpha 115 = .ok (.ldc 147, 2) := by decide +kernel
theorem dX3_alpha_117 : decode cX3_alpha 117 = .ok (.invokespecial 64, 3) := by decide +kernel
theorem dX3_alpha_120 : decode cX3_alpha 120 = .ok (.athrow, 1) := by decide +kernel
theorem dX3_paper_0 : decode cX3_paper 0 = .ok (.aload_n 0, 1) := by decide +kernel
theorem dX3_paper_1 : decode cX3_paper 1 = .ok (.iload_n 1, 1) := by decide +kernel
theorem dX3_paper_2 : decode cX3_paper 2 = .ok (.iload_n 2, 1) := by decide +kernel
theorem dX3_paper_3 : decode cX3_paper 3 = .ok (.invokevirtual 135, 3) := by decide +kernel
theorem dX3_paper_6 : decode cX3_paper 6 = .ok (.iload_n 3, 1) := by decide +kernel
theorem dX3_paper_7 : decode cX3_paper 7 = .ok (.invokestatic 129, 3) := by decide +kernel
theorem dX3_paper_10 : decode cX3_paper 10 = .ok (.iload_n 2, 1) := by decide +kernel
theorem dX3_paper_11 : decode cX3_paper 11 = .ok (.aload_n 0, 1) := by decide +kernel
theorem dX3_paper_12 : decode cX3_paper 12 = .ok (.getfield 18, 3) := by decide +kernel
theorem dX3_paper_15 : decode cX3_paper 15 = .ok (.imul, 1) := by decide +kernel
theorem dX3_paper_16 : decode cX3_paper 16 = .ok (.iload_n 1, 1) := by decide +kernel
theorem dX3_paper_17 : decode cX3_paper 17 = .ok (.iadd, 1) := by decide +kernel
theorem dX3_paper_18 : decode cX3_paper 18 = .ok (.istore 4, 2) := by decide +kernel
theorem dX3_paper_20 : decode cX3_paper 20 = .ok (.aload_n 0, 1) := by decide +kernel
theorem dX3_paper_21 : decode cX3_paper 21 = .ok (.invokevirtual 78, 3) := by decide +kernel
theorem dX3_paper_24 : decode cX3_paper 24 = .ok (.iload 4, 2) := by decide +kernel
theorem dX3_paper_26 : decode cX3_paper 26 = .ok (.invokevirtual 144, 3) := by decide +kernel
theorem dX3_paper_29 : decode cX3_paper 29 = .ok (.istore 5, 2) := by decide +kernel
theorem dX3_paper_31 : decode cX3_paper 31 = .ok (.aload_n 0, 1) := by decide +kernel
theorem dX3_paper_32 : decode cX3_paper 32 = .ok (.invokevirtual 78, 3) := by decide +kernel
theorem dX3_paper_35 : decode cX3_paper 35 = .ok (.iload 4, 2) := by decide +kernel
theorem dX3_paper_37 : decode cX3_paper 37 = .ok (.invokevirtual 138, 3) := by decide +kernel
theorem dX3_paper_40 : decode cX3_paper 40 = .ok (.iload_n 3, 1) := by decide +kernel
theorem dX3_paper_41 : decode cX3_paper 41 = .ok (.invokestatic 141, 3) := by decide +kernel
theorem dX3_paper_44 : decode cX3_paper 44 = .ok (.iload 5, 2) := by decide +kernel
theorem dX3_paper_46 : decode cX3_paper 46 = .ok (.invokestatic 106, 3) := by decide +kernel
theorem dX3_paper_49 : decode cX3_paper 49 = .ok (.sipush 255, 3) := by decide +kernel
theorem dX3_paper_52 : decode cX3_paper 52 = .ok (.iadd, 1) := by decide +kernel
theorem dX3_paper_53 : decode cX3_paper 53 = .ok (.iload 5, 2) := by decide +kernel
theorem dX3_paper_55 : decode cX3_paper 55 = .ok (.isub, 1) := by decide +kernel
theorem dX3_paper_56 : decode cX3_paper 56 = .ok (.ireturn, 1) := by decide +kernel
theorem dX3_separable_0 : decode cX3_separable 0 = .ok (.iload_n 1, 1) := by decide +kernel
theorem dX3_separable_1 : decode cX3_separable 1 = .ok (.bipush 11, 2) := by decide +kernel
theorem dX3_separable_3 : decode cX3_separable 3 = .ok (.invokestatic 89, 3) := by decide +kernel
theorem dX3_separable_6 : decode cX3_separable 6 = .ok (.iload_n 2, 1) := by decide +kernel
theorem dX3_separable_7 : decode cX3_separable 7 = .ok (.invokestatic 93, 3) := by decide +kernel
theorem dX3_separable_10 : decode cX3_separable 10 = .ok (.iload_n 3, 1) := by decide +kernel
theorem dX3_separable_11 : decode cX3_separable 11 = .ok (.invokestatic 93, 3) := by decide +kernel
theorem dX3_separable_14 : decode cX3_separable 14 = .ok (.iload_n 1, 1) := by decide +kernel
theorem dX3_separable_15 : decode cX3_separable 15 = .ok (.iload_n 2, 1) := by decide +kernel
theorem dX3_separable_16 : decode cX3_separable 16 = .ok (.iload_n 3, 1) := by decide +kernel
theorem dX3_separable_17 : decode cX3_separable 17 = .ok (.invokestatic 149, 3) := by decide +kernel
theorem dX3_separable_20 : decode cX3_separable 20 = .ok (.ireturn, 1) := by decide +kernel
theorem dX3_blend_0 : decode cX3_blend 0 = .ok (.iload_n 1, 1) := by decide +kernel
theorem dX3_blend_1 : decode cX3_blend 1 = .ok (.bipush 15, 2) := by decide +kernel
theorem dX3_blend_3 : decode cX3_blend 3 = .ok (.invokestatic 89, 3) := by decide +kernel
theorem dX3_blend_6 : decode cX3_blend 6 = .ok (.iload_n 2, 1) := by decide +kernel
theorem dX3_blend_7 : decode cX3_blend 7 = .ok (.invokestatic 155, 3) := by decide +kernel
theorem dX3_blend_10 : decode cX3_blend 10 = .ok (.iload_n 3, 1) := by decide +kernel
theorem dX3_blend_11 : decode cX3_blend 11 = .ok (.invokestatic 155, 3) := by decide +kernel
theorem dX3_blend_14 : decode cX3_blend 14 = .ok (.iload_n 1, 1) := by decide +kernel
theorem dX3_blend_15 : decode cX3_blend 15 = .ok (.iload_n 2, 1) := by decide +kernel
theorem dX3_blend_16 : decode cX3_blend 16 = .ok (.iload_n 3, 1) := by decide +kernel
theorem dX3_blend_17 : decode cX3_blend 17 = .ok (.invokestatic 158, 3) := by decide +kernel
theorem dX3_blend_20 : decode cX3_blend 20 = .ok (.ireturn, 1) := by decide +kernel
theorem dX3_hereIsFlat_0 : decode cX3_hereIsFlat 0 = .ok (.aload_n 0, 1) := by decide +kernel
theorem dX3_hereIsFlat_1 : decode cX3_hereIsFlat 1 = .ok (.getfield 47, 3) := by decide +kernel
theorem dX3_hereIsFlat_4 : decode cX3_hereIsFlat 4 = .ok (.aload_n 0, 1) := by decide +kernel
theorem dX3_hereIsFlat_5 : decode cX3_hereIsFlat 5 = .ok (.getfield 50, 3) := by decide +kernel
theorem dX3_hereIsFlat_8 : decode cX3_hereIsFlat 8 = .ok (.if_icmp .le 7, 3) := by decide +kernel
theorem dX3_hereIsFlat_11 : decode cX3_hereIsFlat 11 = .ok (.iconst 1, 1) := by decide +kernel
theorem dX3_hereIsFlat_12 : decode cX3_hereIsFlat 12 = .ok (.goto 4, 3) := by decide +kernel
theorem dX3_hereIsFlat_15 : decode cX3_hereIsFlat 15 = .ok (.iconst 0, 1) := by decide +kernel
theorem dX3_hereIsFlat_16 : decode cX3_hereIsFlat 16 = .ok (.ireturn, 1) := by decide +kernel
theorem dX3_here_0 : decode cX3_here 0 = .ok (.aload_n 0, 1) := by decide +kernel
theorem dX3_here_1 : decode cX3_here 1 = .ok (.getfield 37, 3) := by decide +kernel
theorem dX3_here_4 : decode cX3_here 4 = .ok (.aload_n 0, 1) := by decide +kernel
theorem dX3_here_5 : decode cX3_here 5 = .ok (.getfield 50, 3) := by decide +kernel
theorem dX3_here_8 : decode cX3_here 8 = .ok (.iconst 1, 1) := by decide +kernel
theorem dX3_here_9 : decode cX3_here 9 = .ok (.isub, 1) := by decide +kernel
theorem dX3_here_10 : decode cX3_here 10 = .ok (.aaload, 1) := by decide +kernel
theorem dX3_here_11 : decode cX3_here 11 = .ok (.areturn, 1) := by decide +kernel
theorem dX3_leave_0 : decode cX3_leave 0 = .ok (.aload_n 0, 1) := by decide +kernel
theorem dX3_leave_1 : decode cX3_leave 1 = .ok (.invokevirtual 78, 3) := by decide +kernel
theorem dX3_leave_4 : decode cX3_leave 4 = .ok (.astore_n 1, 1) := by decide +kernel
theorem dX3_leave_5 : decode cX3_leave 5 = .ok (.aload_n 0, 1) := by decide +kernel
theorem dX3_leave_6 : decode cX3_leave 6 = .ok (.dup, 1) := by decide +kernel
theorem dX3_leave_7 : decode cX3_leave 7 = .ok (.getfield 50, 3) := by decide +kernel
theorem dX3_leave_10 : decode cX3_leave 10 = .ok (.iconst 1, 1) := by decide +kernel
theorem dX3_leave_11 : decode cX3_leave 11 = .ok (.isub, 1) := by decide +kernel
theorem dX3_leave_12 : decode cX3_leave 12 = .ok (.putfield 50, 3) := by decide +kernel
theorem dX3_leave_15 : decode cX3_leave 15 = .ok (.aload_n 1, 1) := by decide +kernel
theorem dX3_leave_16 : decode cX3_leave 16 = .ok (.areturn, 1) := by decide +kernel
theorem dX3_leftByMask_0 : decode cX3_leftByMask 0 = .ok (.aload_n 0, 1) := by decide +kernel
theorem dX3_leftByMask_1 : decode cX3_leftByMask 1 = .ok (.getfield 53, 3) := by decide +kernel
theorem dX3_leftByMask_4 : decode cX3_leftByMask 4 = .ok (.ifCond .eq 16, 3) := by decide +kernel
theorem dX3_leftByMask_7 : decode cX3_leftByMask 7 = .ok (.iload_n 2, 1) := by decide +kernel
theorem dX3_leftByMask_8 : decode cX3_leftByMask 8 = .ok (.aload_n 0, 1) := by decide +kernel
theorem dX3_leftByMask_9 : decode cX3_leftByMask 9 = .ok (.getfield 32, 3) := by decide +kernel
theorem dX3_leftByMask_12 : decode cX3_leftByMask 12 = .ok (.iload_n 1, 1) := by decide +kernel
theorem dX3_leftByMask_13 : decode cX3_leftByMask 13 = .ok (.iaload, 1) := by decide +kernel
theorem dX3_leftByMask_14 : decode cX3_leftByMask 14 = .ok (.invokestatic 106, 3) := by decide +kernel
theorem dX3_leftByMask_17 : decode cX3_leftByMask 17 = .ok (.goto 4, 3) := by decide +kernel
theorem dX3_leftByMask_20 : decode cX3_leftByMask 20 = .ok (.iload_n 2, 1) := by decide +kernel
theorem dX3_leftByMask_21 : decode cX3_leftByMask 21 = .ok (.ireturn, 1) := by decide +kernel
theorem dX3_needGroup_0 : decode cX3_needGroup 0 = .ok (.aload_n 0, 1) := by decide +kernel
theorem dX3_needGroup_1 : decode cX3_needGroup 1 = .ok (.getfield 47, 3) := by decide +kernel
theorem dX3_needGroup_4 : decode cX3_needGroup 4 = .ok (.iconst 1, 1) := by decide +kernel
theorem dX3_needGroup_5 : decode cX3_needGroup 5 = .ok (.if_icmp .gt 13, 3) := by decide +kernel
theorem dX3_needGroup_8 : decode cX3_needGroup 8 = .ok (.new 161, 3) := by decide +kernel
theorem dX3_needGroup_11 : decode cX3_needGroup 11 = .ok (.dup, 1) := by decide +kernel
theorem dX3_needGroup_12 : decode cX3_needGroup 12 = .ok (.ldc 163, 2) := by decide +kernel
theorem dX3_needGroup_14 : decode cX3_needGroup 14 = .ok (.invokespecial 165, 3) := by decide +kernel
theorem dX3_needGroup_17 : decode cX3_needGroup 17 = .ok (.athrow, 1) := by decide +kernel
theorem dX3_needGroup_18 : decode cX3_needGroup 18 = .ok (.return_, 1) := by decide +kernel
theorem dX3_needPoint_0 : decode cX3_needPoint 0 = .ok (.iload_n 1, 1) := by decide +kernel
theorem dX3_needPoint_1 : decode cX3_needPoint 1 = .ok (.ifCond .lt 23, 3) := by decide +kernel
theorem dX3_needPoint_4 : decode cX3_needPoint 4 = .ok (.iload_n 1, 1) := by decide +kernel
theorem dX3_needPoint_5 : decode cX3_needPoint 5 = .ok (.aload_n 0, 1) := by decide +kernel
theorem dX3_needPoint_6 : decode cX3_needPoint 6 = .ok (.getfield 18, 3) := by decide +kernel
theorem dX3_needPoint_9 : decode cX3_needPoint 9 = .ok (.if_icmp .ge 15, 3) := by decide +kernel
theorem dX3_needPoint_12 : decode cX3_needPoint 12 = .ok (.iload_n 2, 1) := by decide +kernel
theorem dX3_needPoint_13 : decode cX3_needPoint 13 = .ok (.ifCond .lt 11, 3) := by decide +kernel
theorem dX3_needPoint_16 : decode cX3_needPoint 16 = .ok (.iload_n 2, 1) := by decide +kernel
theorem dX3_needPoint_17 : decode cX3_needPoint 17 = .ok (.aload_n 0, 1) := by decide +kernel
theorem dX3_needPoint_18 : decode cX3_needPoint 18 = .ok (.getfield 22, 3) := by decide +kernel
theorem dX3_needPoint_21 : decode cX3_needPoint 21 = .ok (.if_icmp .lt 13, 3) := by decide +kernel
theorem dX3_needPoint_24 : decode cX3_needPoint 24 = .ok (.new 166, 3) := by decide +kernel
theorem dX3_needPoint_27 : decode cX3_needPoint 27 = .ok (.dup, 1) := by decide +kernel
theorem dX3_needPoint_28 : decode cX3_needPoint 28 = .ok (.ldc 168, 2) := by decide +kernel
theorem dX3_needPoint_30 : decode cX3_needPoint 30 = .ok (.invokespecial 170, 3) := by decide +kernel
theorem dX3_needPoint_33 : decode cX3_needPoint 33 = .ok (.athrow, 1) := by decide +kernel
theorem dX3_needPoint_34 : decode cX3_needPoint 34 = .ok (.return_, 1) := by decide +kernel
theorem dX3_needBand_0 : decode cX3_needBand 0 = .ok (.iload_n 0, 1) := by decide +kernel
theorem dX3_needBand_1 : decode cX3_needBand 1 = .ok (.ifCond .lt 8, 3) := by decide +kernel
theorem dX3_needBand_4 : decode cX3_needBand 4 = .ok (.iload_n 0, 1) := by decide +kernel
theorem dX3_needBand_5 : decode cX3_needBand 5 = .ok (.iconst 3, 1) := by decide +kernel
theorem dX3_needBand_6 : decode cX3_needBand 6 = .ok (.if_icmp .lt 13, 3) := by decide +kernel
theorem dX3_needBand_9 : decode cX3_needBand 9 = .ok (.new 166, 3) := by decide +kernel
theorem dX3_needBand_12 : decode cX3_needBand 12 = .ok (.dup, 1) := by decide +kernel
theorem dX3_needBand_13 : decode cX3_needBand 13 = .ok (.ldc 171, 2) := by decide +kernel
theorem dX3_needBand_15 : decode cX3_needBand 15 = .ok (.invokespecial 170, 3) := by decide +kernel
theorem dX3_needBand_18 : decode cX3_needBand 18 = .ok (.athrow, 1) := by decide +kernel
theorem dX3_needBand_19 : decode cX3_needBand 19 = .ok (.return_, 1) := by decide +kernel
theorem dX3_needByte_0 : decode cX3_needByte 0 = .ok (.iload_n 0, 1) := by decide +kernel
theorem dX3_needByte_1 : decode cX3_needByte 1 = .ok (.ifCond .lt 10, 3) := by decide +kernel
theorem dX3_needByte_4 : decode cX3_needByte 4 = .ok (.iload_n 0, 1) := by decide +kernel
theorem dX3_needByte_5 : decode cX3_needByte 5 = .ok (.sipush 255, 3) := by decide +kernel
theorem dX3_needByte_8 : decode cX3_needByte 8 = .ok (.if_icmp .le 13, 3) := by decide +kernel
theorem dX3_needByte_11 : decode cX3_needByte 11 = .ok (.new 60, 3) := by decide +kernel
theorem dX3_needByte_14 : decode cX3_needByte 14 = .ok (.dup, 1) := by decide +kernel
theorem dX3_needByte_15 : decode cX3_needByte 15 = .ok (.ldc 173, 2) := by decide +kernel
theorem dX3_needByte_17 : decode cX3_needByte 17 = .ok (.invokespecial 64, 3) := by decide +kernel
theorem dX3_needByte_20 : decode cX3_needByte 20 = .ok (.athrow, 1) := by decide +kernel
theorem dX3_needByte_21 : decode cX3_needByte 21 = .ok (.return_, 1) := by decide +kernel
theorem dX3_needColour_0 : decode cX3_needColour 0 = .ok (.iload_n 0, 1) := by decide +kernel
theorem dX3_needColour_1 : decode cX3_needColour 1 = .ok (.ifCond .lt 9, 3) := by decide +kernel
theorem dX3_needColour_4 : decode cX3_needColour 4 = .ok (.iload_n 0, 1) := by decide +kernel
theorem dX3_needColour_5 : decode cX3_needColour 5 = .ok (.ldc 175, 2) := by decide +kernel
theorem dX3_needColour_7 : decode cX3_needColour 7 = .ok (.if_icmp .le 13, 3) := by decide +kernel
theorem dX3_needColour_10 : decode cX3_needColour 10 = .ok (.new 60, 3) := by decide +kernel
theorem dX3_needColour_13 : decode cX3_needColour 13 = .ok (.dup, 1) := by decide +kernel
theorem dX3_needColour_14 : decode cX3_needColour 14 = .ok (.ldc 176, 2) := by decide +kernel
theorem dX3_needColour_16 : decode cX3_needColour 16 = .ok (.invokespecial 64, 3) := by decide +kernel
theorem dX3_needColour_19 : decode cX3_needColour 19 = .ok (.athrow, 1) := by decide +kernel
theorem dX3_needColour_20 : decode cX3_needColour 20 = .ok (.return_, 1) := by decide +kernel
theorem dX3_needMode_0 : decode cX3_needMode 0 = .ok (.iload_n 0, 1) := by decide +kernel
theorem dX3_needMode_1 : decode cX3_needMode 1 = .ok (.ifCond .lt 8, 3) := by decide +kernel
theorem dX3_needMode_4 : decode cX3_needMode 4 = .ok (.iload_n 0, 1) := by decide +kernel
theorem dX3_needMode_5 : decode cX3_needMode 5 = .ok (.iload_n 1, 1) := by decide +kernel
theorem dX3_needMode_6 : decode cX3_needMode 6 = .ok (.if_icmp .le 13, 3) := by decide +kernel
theorem dX3_needMode_9 : decode cX3_needMode 9 = .ok (.new 60, 3) := by decide +kernel
theorem dX3_needMode_12 : decode cX3_needMode 12 = .ok (.dup, 1) := by decide +kernel
theorem dX3_needMode_13 : decode cX3_needMode 13 = .ok (.ldc 178, 2) := by decide +kernel
theorem dX3_needMode_15 : decode cX3_needMode 15 = .ok (.invokespecial 64, 3) := by decide +kernel
theorem dX3_needMode_18 : decode cX3_needMode 18 = .ok (.athrow, 1) := by decide +kernel
theorem dX3_needMode_19 : decode cX3_needMode 19 = .ok (.return_, 1) := by decide +kernel
theorem dJ9_floorDiv_7cf53_0 : decode cJ9_floorDiv_7cf53 0 = .ok (.iload_n 0, 1) := by decide +kernel
theorem dJ9_floorDiv_7cf53_1 : decode cJ9_floorDiv_7cf53 1 = .ok (.iload_n 1, 1) := by decide +kernel
theorem dJ9_floorDiv_7cf53_2 : decode cJ9_floorDiv_7cf53 2 = .ok (.idiv, 1) := by decide +kernel
theorem dJ9_floorDiv_7cf53_3 : decode cJ9_floorDiv_7cf53 3 = .ok (.istore_n 2, 1) := by decide +kernel
theorem dJ9_floorDiv_7cf53_4 : decode cJ9_floorDiv_7cf53 4 = .ok (.iload_n 0, 1) := by decide +kernel
theorem dJ9_floorDiv_7cf53_5 : decode cJ9_floorDiv_7cf53 5 = .ok (.iload_n 1, 1) := by decide +kernel
theorem dJ9_floorDiv_7cf53_6 : decode cJ9_floorDiv_7cf53 6 = .ok (.ixor, 1) := by decide +kernel
theorem dJ9_floorDiv_7cf53_7 : decode cJ9_floorDiv_7cf53 7 = .ok (.ifCond .ge 14, 3) := by decide +kernel
theorem dJ9_floorDiv_7cf53_10 : decode cJ9_floorDiv_7cf53 10 = .ok (.iload_n 2, 1) := by decide +kernel
theorem dJ9_floorDiv_7cf53_11 : decode cJ9_floorDiv_7cf53 11 = .ok (.iload_n 1, 1) := by decide +kernel
theorem dJ9_floorDiv_7cf53_12 : decode cJ9_floorDiv_7cf53 12 = .ok (.imul, 1) := by decide +kernel
theorem dJ9_floorDiv_7cf53_13 : decode cJ9_floorDiv_7cf53 13 = .ok (.iload_n 0, 1) := by decide +kernel
theorem dJ9_floorDiv_7cf53_14 : decode cJ9_floorDiv_7cf53 14 = .ok (.if_icmp .eq 7, 3) := by decide +kernel
theorem dJ9_floorDiv_7cf53_17 : decode cJ9_floorDiv_7cf53 17 = .ok (.iload_n 2, 1) := by decide +kernel
theorem dJ9_floorDiv_7cf53_18 : decode cJ9_floorDiv_7cf53 18 = .ok (.iconst 1, 1) := by decide +kernel
theorem dJ9_floorDiv_7cf53_19 : decode cJ9_floorDiv_7cf53 19 = .ok (.isub, 1) := by decide +kernel
theorem dJ9_floorDiv_7cf53_20 : decode cJ9_floorDiv_7cf53 20 = .ok (.ireturn, 1) := by decide +kernel
theorem dJ9_floorDiv_7cf53_21 : decode cJ9_floorDiv_7cf53 21 = .ok (.iload_n 2, 1) := by decide +kernel
theorem dJ9_floorDiv_7cf53_22 : decode cJ9_floorDiv_7cf53 22 = .ok (.ireturn, 1) := by decide +kernel
theorem dJ9_max_7cf53_0 : decode cJ9_max_7cf53 0 = .ok (.iload_n 0, 1) := by decide +kernel
theorem dJ9_max_7cf53_1 : decode cJ9_max_7cf53 1 = .ok (.iload_n 1, 1) := by decide +kernel
theorem dJ9_max_7cf53_2 : decode cJ9_max_7cf53 2 = .ok (.if_icmp .lt 7, 3) := by decide +kernel
theorem dJ9_max_7cf53_5 : decode cJ9_max_7cf53 5 = .ok (.iload_n 0, 1) := by decide +kernel
theorem dJ9_max_7cf53_6 : decode cJ9_max_7cf53 6 = .ok (.goto 4, 3) := by decide +kernel
theorem dJ9_max_7cf53_9 : decode cJ9_max_7cf53 9 = .ok (.iload_n 1, 1) := by decide +kernel
theorem dJ9_max_7cf53_10 : decode cJ9_max_7cf53 10 = .ok (.ireturn, 1) := by decide +kernel
theorem dJ9_min_7cf53_0 : decode cJ9_min_7cf53 0 = .ok (.iload_n 0, 1) := by decide +kernel
theorem dJ9_min_7cf53_1 : decode cJ9_min_7cf53 1 = .ok (.iload_n 1, 1) := by decide +kernel
theorem dJ9_min_7cf53_2 : decode cJ9_min_7cf53 2 = .ok (.if_icmp .gt 7, 3) := by decide +kernel
theorem dJ9_min_7cf53_5 : decode cJ9_min_7cf53 5 = .ok (.iload_n 0, 1) := by decide +kernel
theorem dJ9_min_7cf53_6 : decode cJ9_min_7cf53 6 = .ok (.goto 4, 3) := by decide +kernel
theorem dJ9_min_7cf53_9 : decode cJ9_min_7cf53 9 = .ok (.iload_n 1, 1) := by decide +kernel
theorem dJ9_min_7cf53_10 : decode cJ9_min_7cf53 10 = .ok (.ireturn, 1) := by decide +kernel
