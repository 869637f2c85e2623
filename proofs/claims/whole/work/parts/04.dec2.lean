theorem dX4_init_0 : decode cX4_init 0 = .ok (.aload_n 0, 1) := by decide +kernel
theorem dX4_init_1 : decode cX4_init 1 = .ok (.invokespecial 1, 3) := by decide +kernel
theorem dX4_init_4 : decode cX4_init 4 = .ok (.aload_n 0, 1) := by decide +kernel
theorem dX4_init_5 : decode cX4_init 5 = .ok (.bipush 6, 2) := by decide +kernel
theorem dX4_init_7 : decode cX4_init 7 = .ok (.putfield 7, 3) := by decide +kernel
theorem dX4_init_10 : decode cX4_init 10 = .ok (.aload_n 0, 1) := by decide +kernel
theorem dX4_init_11 : decode cX4_init 11 = .ok (.iconst 1, 1) := by decide +kernel
theorem dX4_init_12 : decode cX4_init 12 = .ok (.putfield 13, 3) := by decide +kernel
theorem dX4_init_15 : decode cX4_init 15 = .ok (.aload_n 0, 1) := by decide +kernel
theorem dX4_init_16 : decode cX4_init 16 = .ok (.bipush 41, 2) := by decide +kernel
theorem dX4_init_18 : decode cX4_init 18 = .ok (.newarray .int, 2) := by decide +kernel
theorem dX4_init_20 : decode cX4_init 20 = .ok (.putfield 16, 3) := by decide +kernel
theorem dX4_init_23 : decode cX4_init 23 = .ok (.aload_n 0, 1) := by decide +kernel
theorem dX4_init_24 : decode cX4_init 24 = .ok (.iconst 1, 1) := by decide +kernel
theorem dX4_init_25 : decode cX4_init 25 = .ok (.putfield 20, 3) := by decide +kernel
theorem dX4_init_28 : decode cX4_init 28 = .ok (.aload_n 0, 1) := by decide +kernel
theorem dX4_init_29 : decode cX4_init 29 = .ok (.bipush 8, 2) := by decide +kernel
theorem dX4_init_31 : decode cX4_init 31 = .ok (.newarray .boolean, 2) := by decide +kernel
theorem dX4_init_33 : decode cX4_init 33 = .ok (.putfield 23, 3) := by decide +kernel
theorem dX4_init_36 : decode cX4_init 36 = .ok (.aload_n 0, 1) := by decide +kernel
theorem dX4_init_37 : decode cX4_init 37 = .ok (.sipush 3456, 3) := by decide +kernel
theorem dX4_init_40 : decode cX4_init 40 = .ok (.newarray .int, 2) := by decide +kernel
theorem dX4_init_42 : decode cX4_init 42 = .ok (.putfield 27, 3) := by decide +kernel
theorem dX4_init_45 : decode cX4_init 45 = .ok (.aload_n 0, 1) := by decide +kernel
theorem dX4_init_46 : decode cX4_init 46 = .ok (.sipush 1152, 3) := by decide +kernel
theorem dX4_init_49 : decode cX4_init 49 = .ok (.newarray .int, 2) := by decide +kernel
theorem dX4_init_51 : decode cX4_init 51 = .ok (.putfield 30, 3) := by decide +kernel
theorem dX4_init_54 : decode cX4_init 54 = .ok (.aload_n 0, 1) := by decide +kernel
theorem dX4_init_55 : decode cX4_init 55 = .ok (.sipush 3456, 3) := by decide +kernel
theorem dX4_init_58 : decode cX4_init 58 = .ok (.newarray .int, 2) := by decide +kernel
theorem dX4_init_60 : decode cX4_init 60 = .ok (.putfield 33, 3) := by decide +kernel
theorem dX4_init_63 : decode cX4_init 63 = .ok (.aload_n 0, 1) := by decide +kernel
theorem dX4_init_64 : decode cX4_init 64 = .ok (.sipush 1152, 3) := by decide +kernel
theorem dX4_init_67 : decode cX4_init 67 = .ok (.newarray .int, 2) := by decide +kernel
theorem dX4_init_69 : decode cX4_init 69 = .ok (.putfield 36, 3) := by decide +kernel
theorem dX4_init_72 : decode cX4_init 72 = .ok (.aload_n 0, 1) := by decide +kernel
theorem dX4_init_73 : decode cX4_init 73 = .ok (.sipush 1152, 3) := by decide +kernel
theorem dX4_init_76 : decode cX4_init 76 = .ok (.newarray .int, 2) := by decide +kernel
theorem dX4_init_78 : decode cX4_init 78 = .ok (.putfield 39, 3) := by decide +kernel
theorem dX4_init_81 : decode cX4_init 81 = .ok (.aload_n 0, 1) := by decide +kernel
theorem dX4_init_82 : decode cX4_init 82 = .ok (.sipush 144, 3) := by decide +kernel
theorem dX4_init_85 : decode cX4_init 85 = .ok (.newarray .int, 2) := by decide +kernel
theorem dX4_init_87 : decode cX4_init 87 = .ok (.putfield 42, 3) := by decide +kernel
theorem dX4_init_90 : decode cX4_init 90 = .ok (.aload_n 0, 1) := by decide +kernel
theorem dX4_init_91 : decode cX4_init 91 = .ok (.sipush 144, 3) := by decide +kernel
theorem dX4_init_94 : decode cX4_init 94 = .ok (.newarray .int, 2) := by decide +kernel
theorem dX4_init_96 : decode cX4_init 96 = .ok (.putfield 45, 3) := by decide +kernel
theorem dX4_init_99 : decode cX4_init 99 = .ok (.aload_n 0, 1) := by decide +kernel
theorem dX4_init_100 : decode cX4_init 100 = .ok (.iconst 3, 1) := by decide +kernel
theorem dX4_init_101 : decode cX4_init 101 = .ok (.newarray .int, 2) := by decide +kernel
theorem dX4_init_103 : decode cX4_init 103 = .ok (.putfield 48, 3) := by decide +kernel
theorem dX4_init_106 : decode cX4_init 106 = .ok (.aload_n 0, 1) := by decide +kernel
theorem dX4_init_107 : decode cX4_init 107 = .ok (.iconst 3, 1) := by decide +kernel
theorem dX4_init_108 : decode cX4_init 108 = .ok (.newarray .boolean, 2) := by decide +kernel
theorem dX4_init_110 : decode cX4_init 110 = .ok (.putfield 51, 3) := by decide +kernel
theorem dX4_init_113 : decode cX4_init 113 = .ok (.aload_n 0, 1) := by decide +kernel
theorem dX4_init_114 : decode cX4_init 114 = .ok (.iconst 3, 1) := by decide +kernel
theorem dX4_init_115 : decode cX4_init 115 = .ok (.newarray .int, 2) := by decide +kernel
theorem dX4_init_117 : decode cX4_init 117 = .ok (.putfield 54, 3) := by decide +kernel
theorem dX4_init_120 : decode cX4_init 120 = .ok (.aload_n 0, 1) := by decide +kernel
theorem dX4_init_121 : decode cX4_init 121 = .ok (.iconst 3, 1) := by decide +kernel
theorem dX4_init_122 : decode cX4_init 122 = .ok (.newarray .int, 2) := by decide +kernel
theorem dX4_init_124 : decode cX4_init 124 = .ok (.putfield 57, 3) := by decide +kernel
theorem dX4_init_127 : decode cX4_init 127 = .ok (.aload_n 0, 1) := by decide +kernel
theorem dX4_init_128 : decode cX4_init 128 = .ok (.iconst 3, 1) := by decide +kernel
theorem dX4_init_129 : decode cX4_init 129 = .ok (.newarray .int, 2) := by decide +kernel
theorem dX4_init_131 : decode cX4_init 131 = .ok (.putfield 60, 3) := by decide +kernel
theorem dX4_init_134 : decode cX4_init 134 = .ok (.aload_n 0, 1) := by decide +kernel
theorem dX4_init_135 : decode cX4_init 135 = .ok (.iconst 3, 1) := by decide +kernel
theorem dX4_init_136 : decode cX4_init 136 = .ok (.newarray .int, 2) := by decide +kernel
theorem dX4_init_138 : decode cX4_init 138 = .ok (.putfield 63, 3) := by decide +kernel
theorem dX4_init_141 : decode cX4_init 141 = .ok (.aload_n 0, 1) := by decide +kernel
theorem dX4_init_142 : decode cX4_init 142 = .ok (.iload_n 1, 1) := by decide +kernel
theorem dX4_init_143 : decode cX4_init 143 = .ok (.iconst 1, 1) := by decide +kernel
theorem dX4_init_144 : decode cX4_init 144 = .ok (.if_icmp .ge 7, 3) := by decide +kernel
theorem dX4_init_147 : decode cX4_init 147 = .ok (.iconst 1, 1) := by decide +kernel
theorem dX4_init_148 : decode cX4_init 148 = .ok (.goto 15, 3) := by decide +kernel
theorem dX4_init_151 : decode cX4_init 151 = .ok (.iload_n 1, 1) := by decide +kernel
theorem dX4_init_152 : decode cX4_init 152 = .ok (.bipush 12, 2) := by decide +kernel
theorem dX4_init_154 : decode cX4_init 154 = .ok (.if_icmp .le 8, 3) := by decide +kernel
theorem dX4_init_157 : decode cX4_init 157 = .ok (.bipush 12, 2) := by decide +kernel
theorem dX4_init_159 : decode cX4_init 159 = .ok (.goto 4, 3) := by decide +kernel
theorem dX4_init_162 : decode cX4_init 162 = .ok (.iload_n 1, 1) := by decide +kernel
theorem dX4_init_163 : decode cX4_init 163 = .ok (.putfield 66, 3) := by decide +kernel
theorem dX4_init_166 : decode cX4_init 166 = .ok (.aload_n 0, 1) := by decide +kernel
theorem dX4_init_167 : decode cX4_init 167 = .ok (.iload_n 2, 1) := by decide +kernel
theorem dX4_init_168 : decode cX4_init 168 = .ok (.iconst 1, 1) := by decide +kernel
theorem dX4_init_169 : decode cX4_init 169 = .ok (.if_icmp .ge 7, 3) := by decide +kernel
theorem dX4_init_172 : decode cX4_init 172 = .ok (.iconst 1, 1) := by decide +kernel
theorem dX4_init_173 : decode cX4_init 173 = .ok (.goto 15, 3) := by decide +kernel
theorem dX4_init_176 : decode cX4_init 176 = .ok (.iload_n 2, 1) := by decide +kernel
theorem dX4_init_177 : decode cX4_init 177 = .ok (.bipush 12, 2) := by decide +kernel
theorem dX4_init_179 : decode cX4_init 179 = .ok (.if_icmp .le 8, 3) := by decide +kernel
theorem dX4_init_182 : decode cX4_init 182 = .ok (.bipush 12, 2) := by decide +kernel
theorem dX4_init_184 : decode cX4_init 184 = .ok (.goto 4, 3) := by decide +kernel
theorem dX4_init_187 : decode cX4_init 187 = .ok (.iload_n 2, 1) := by decide +kernel
theorem dX4_init_188 : decode cX4_init 188 = .ok (.putfield 69, 3) := by decide +kernel
theorem dX4_init_191 : decode cX4_init 191 = .ok (.iconst 0, 1) := by decide +kernel
theorem dX4_init_192 : decode cX4_init 192 = .ok (.istore_n 3, 1) := by decide +kernel
theorem dX4_init_193 : decode cX4_init 193 = .ok (.iload_n 3, 1) := by decide +kernel
theorem dX4_init_194 : decode cX4_init 194 = .ok (.sipush 144, 3) := by decide +kernel
theorem dX4_init_197 : decode cX4_init 197 = .ok (.if_icmp .ge 18, 3) := by decide +kernel
theorem dX4_init_200 : decode cX4_init 200 = .ok (.aload_n 0, 1) := by decide +kernel
theorem dX4_init_201 : decode cX4_init 201 = .ok (.getfield 45, 3) := by decide +kernel
theorem dX4_init_204 : decode cX4_init 204 = .ok (.iload_n 3, 1) := by decide +kernel
theorem dX4_init_205 : decode cX4_init 205 = .ok (.sipush 255, 3) := by decide +kernel
theorem dX4_init_208 : decode cX4_init 208 = .ok (.iastore, 1) := by decide +kernel
theorem dX4_init_209 : decode cX4_init 209 = .ok (.iinc 3 1, 3) := by decide +kernel
theorem dX4_init_212 : decode cX4_init 212 = .ok (.goto (-19), 3) := by decide +kernel
theorem dX4_init_215 : decode cX4_init 215 = .ok (.return_, 1) := by decide +kernel
theorem dX4_thrown_0 : decode cX4_thrown 0 = .ok (.aload_n 0, 1) := by decide +kernel
theorem dX4_thrown_1 : decode cX4_thrown 1 = .ok (.getfield 72, 3) := by decide +kernel
theorem dX4_thrown_4 : decode cX4_thrown 4 = .ok (.ireturn, 1) := by decide +kernel
theorem dX4_mul_0 : decode cX4_mul 0 = .ok (.iload_n 0, 1) := by decide +kernel
theorem dX4_mul_1 : decode cX4_mul 1 = .ok (.iload_n 1, 1) := by decide +kernel
theorem dX4_mul_2 : decode cX4_mul 2 = .ok (.imul, 1) := by decide +kernel
theorem dX4_mul_3 : decode cX4_mul 3 = .ok (.bipush 127, 2) := by decide +kernel
theorem dX4_mul_5 : decode cX4_mul 5 = .ok (.iadd, 1) := by decide +kernel
theorem dX4_mul_6 : decode cX4_mul 6 = .ok (.sipush 255, 3) := by decide +kernel
theorem dX4_mul_9 : decode cX4_mul 9 = .ok (.idiv, 1) := by decide +kernel
theorem dX4_mul_10 : decode cX4_mul 10 = .ok (.ireturn, 1) := by decide +kernel
theorem dX4_isByte_0 : decode cX4_isByte 0 = .ok (.iload_n 0, 1) := by decide +kernel
theorem dX4_isByte_1 : decode cX4_isByte 1 = .ok (.ifCond .lt 14, 3) := by decide +kernel
theorem dX4_isByte_4 : decode cX4_isByte 4 = .ok (.iload_n 0, 1) := by decide +kernel
theorem dX4_isByte_5 : decode cX4_isByte 5 = .ok (.sipush 255, 3) := by decide +kernel
theorem dX4_isByte_8 : decode cX4_isByte 8 = .ok (.if_icmp .gt 7, 3) := by decide +kernel
theorem dX4_isByte_11 : decode cX4_isByte 11 = .ok (.iconst 1, 1) := by decide +kernel
theorem dX4_isByte_12 : decode cX4_isByte 12 = .ok (.goto 4, 3) := by decide +kernel
theorem dX4_isByte_15 : decode cX4_isByte 15 = .ok (.iconst 0, 1) := by decide +kernel
theorem dX4_isByte_16 : decode cX4_isByte 16 = .ok (.ireturn, 1) := by decide +kernel
theorem dX4_isPoint_0 : decode cX4_isPoint 0 = .ok (.iload_n 1, 1) := by decide +kernel
theorem dX4_isPoint_1 : decode cX4_isPoint 1 = .ok (.ifCond .lt 27, 3) := by decide +kernel
theorem dX4_isPoint_4 : decode cX4_isPoint 4 = .ok (.iload_n 1, 1) := by decide +kernel
theorem dX4_isPoint_5 : decode cX4_isPoint 5 = .ok (.aload_n 0, 1) := by decide +kernel
theorem dX4_isPoint_6 : decode cX4_isPoint 6 = .ok (.getfield 66, 3) := by decide +kernel
theorem dX4_isPoint_9 : decode cX4_isPoint 9 = .ok (.if_icmp .ge 19, 3) := by decide +kernel
theorem dX4_isPoint_12 : decode cX4_isPoint 12 = .ok (.iload_n 2, 1) := by decide +kernel
theorem dX4_isPoint_13 : decode cX4_isPoint 13 = .ok (.ifCond .lt 15, 3) := by decide +kernel
theorem dX4_isPoint_16 : decode cX4_isPoint 16 = .ok (.iload_n 2, 1) := by decide +kernel
theorem dX4_isPoint_17 : decode cX4_isPoint 17 = .ok (.aload_n 0, 1) := by decide +kernel
theorem dX4_isPoint_18 : decode cX4_isPoint 18 = .ok (.getfield 69, 3) := by decide +kernel
theorem dX4_isPoint_21 : decode cX4_isPoint 21 = .ok (.if_icmp .ge 7, 3) := by decide +kernel
theorem dX4_isPoint_24 : decode cX4_isPoint 24 = .ok (.iconst 1, 1) := by decide +kernel
theorem dX4_isPoint_25 : decode cX4_isPoint 25 = .ok (.goto 4, 3) := by decide +kernel
theorem dX4_isPoint_28 : decode cX4_isPoint 28 = .ok (.iconst 0, 1) := by decide +kernel
theorem dX4_isPoint_29 : decode cX4_isPoint 29 = .ok (.ireturn, 1) := by decide +kernel
theorem dX4_isBand_0 : decode cX4_isBand 0 = .ok (.iload_n 0, 1) := by decide +kernel
theorem dX4_isBand_1 : decode cX4_isBand 1 = .ok (.ifCond .lt 12, 3) := by decide +kernel
theorem dX4_isBand_4 : decode cX4_isBand 4 = .ok (.iload_n 0, 1) := by decide +kernel
theorem dX4_isBand_5 : decode cX4_isBand 5 = .ok (.iconst 3, 1) := by decide +kernel
theorem dX4_isBand_6 : decode cX4_isBand 6 = .ok (.if_icmp .ge 7, 3) := by decide +kernel
theorem dX4_isBand_9 : decode cX4_isBand 9 = .ok (.iconst 1, 1) := by decide +kernel
theorem dX4_isBand_10 : decode cX4_isBand 10 = .ok (.goto 4, 3) := by decide +kernel
theorem dX4_isBand_13 : decode cX4_isBand 13 = .ok (.iconst 0, 1) := by decide +kernel
theorem dX4_isBand_14 : decode cX4_isBand 14 = .ok (.ireturn, 1) := by decide +kernel
theorem dX4_dodge_0 : decode cX4_dodge 0 = .ok (.iload_n 0, 1) := by decide +kernel
theorem dX4_dodge_1 : decode cX4_dodge 1 = .ok (.ifCond .ne 5, 3) := by decide +kernel
theorem dX4_dodge_4 : decode cX4_dodge 4 = .ok (.iconst 0, 1) := by decide +kernel
theorem dX4_dodge_5 : decode cX4_dodge 5 = .ok (.ireturn, 1) := by decide +kernel
theorem dX4_dodge_6 : decode cX4_dodge 6 = .ok (.iload_n 0, 1) := by decide +kernel
theorem dX4_dodge_7 : decode cX4_dodge 7 = .ok (.iload_n 1, 1) := by decide +kernel
theorem dX4_dodge_8 : decode cX4_dodge 8 = .ok (.iadd, 1) := by decide +kernel
theorem dX4_dodge_9 : decode cX4_dodge 9 = .ok (.sipush 255, 3) := by decide +kernel
theorem dX4_dodge_12 : decode cX4_dodge 12 = .ok (.if_icmp .lt 9, 3) := by decide +kernel
theorem dX4_dodge_15 : decode cX4_dodge 15 = .ok (.sipush 255, 3) := by decide +kernel
theorem dX4_dodge_18 : decode cX4_dodge 18 = .ok (.goto 22, 3) := by decide +kernel
theorem dX4_dodge_21 : decode cX4_dodge 21 = .ok (.sipush 255, 3) := by decide +kernel
theorem dX4_dodge_24 : decode cX4_dodge 24 = .ok (.iload_n 0, 1) := by decide +kernel
theorem dX4_dodge_25 : decode cX4_dodge 25 = .ok (.imul, 1) := by decide +kernel
theorem dX4_dodge_26 : decode cX4_dodge 26 = .ok (.sipush 255, 3) := by decide +kernel
theorem dX4_dodge_29 : decode cX4_dodge 29 = .ok (.iload_n 1, 1) := by decide +kernel
theorem dX4_dodge_30 : decode cX4_dodge 30 = .ok (.isub, 1) := by decide +kernel
theorem dX4_dodge_31 : decode cX4_dodge 31 = .ok (.iconst 2, 1) := by decide +kernel
theorem dX4_dodge_32 : decode cX4_dodge 32 = .ok (.idiv, 1) := by decide +kernel
theorem dX4_dodge_33 : decode cX4_dodge 33 = .ok (.iadd, 1) := by decide +kernel
theorem dX4_dodge_34 : decode cX4_dodge 34 = .ok (.sipush 255, 3) := by decide +kernel
theorem dX4_dodge_37 : decode cX4_dodge 37 = .ok (.iload_n 1, 1) := by decide +kernel
theorem dX4_dodge_38 : decode cX4_dodge 38 = .ok (.isub, 1) := by decide +kernel
theorem dX4_dodge_39 : decode cX4_dodge 39 = .ok (.idiv, 1) := by decide +kernel
theorem dX4_dodge_40 : decode cX4_dodge 40 = .ok (.ireturn, 1) := by decide +kernel
theorem dX4_burn_0 : decode cX4_burn 0 = .ok (.iload_n 0, 1) := by decide +kernel
theorem dX4_burn_1 : decode cX4_burn 1 = .ok (.sipush 255, 3) := by decide +kernel
theorem dX4_burn_4 : decode cX4_burn 4 = .ok (.if_icmp .ne 7, 3) := by decide +kernel
theorem dX4_burn_7 : decode cX4_burn 7 = .ok (.sipush 255, 3) := by decide +kernel
theorem dX4_burn_10 : decode cX4_burn 10 = .ok (.ireturn, 1) := by decide +kernel
theorem dX4_burn_11 : decode cX4_burn 11 = .ok (.iload_n 0, 1) := by decide +kernel
theorem dX4_burn_12 : decode cX4_burn 12 = .ok (.iload_n 1, 1) := by decide +kernel
theorem dX4_burn_13 : decode cX4_burn 13 = .ok (.iadd, 1) := by decide +kernel
theorem dX4_burn_14 : decode cX4_burn 14 = .ok (.sipush 255, 3) := by decide +kernel
theorem dX4_burn_17 : decode cX4_burn 17 = .ok (.if_icmp .gt 7, 3) := by decide +kernel
theorem dX4_burn_20 : decode cX4_burn 20 = .ok (.iconst 0, 1) := by decide +kernel
theorem dX4_burn_21 : decode cX4_burn 21 = .ok (.goto 22, 3) := by decide +kernel
theorem dX4_burn_24 : decode cX4_burn 24 = .ok (.sipush 255, 3) := by decide +kernel
theorem dX4_burn_27 : decode cX4_burn 27 = .ok (.sipush 255, 3) := by decide +kernel
theorem dX4_burn_30 : decode cX4_burn 30 = .ok (.sipush 255, 3) := by decide +kernel
theorem dX4_burn_33 : decode cX4_burn 33 = .ok (.iload_n 0, 1) := by decide +kernel
theorem dX4_burn_34 : decode cX4_burn 34 = .ok (.isub, 1) := by decide +kernel
theorem dX4_burn_35 : decode cX4_burn 35 = .ok (.imul, 1) := by decide +kernel
theorem dX4_burn_36 : decode cX4_burn 36 = .ok (.iload_n 1, 1) := by decide +kernel
theorem dX4_burn_37 : decode cX4_burn 37 = .ok (.iconst 2, 1) := by decide +kernel
theorem dX4_burn_38 : decode cX4_burn 38 = .ok (.idiv, 1) := by decide +kernel
theorem dX4_burn_39 : decode cX4_burn 39 = .ok (.iadd, 1) := by decide +kernel
theorem dX4_burn_40 : decode cX4_burn 40 = .ok (.iload_n 1, 1) := by decide +kernel
theorem dX4_burn_41 : decode cX4_burn 41 = .ok (.idiv, 1) := by decide +kernel
theorem dX4_burn_42 : decode cX4_burn 42 = .ok (.isub, 1) := by decide +kernel
theorem dX4_burn_43 : decode cX4_burn 43 = .ok (.ireturn, 1) := by decide +kernel
theorem dX4_hard_0 : decode cX4_hard 0 = .ok (.iload_n 1, 1) := by decide +kernel
theorem dX4_hard_1 : decode cX4_hard 1 = .ok (.bipush 127, 2) := by decide +kernel
theorem dX4_hard_3 : decode cX4_hard 3 = .ok (.if_icmp .gt 11, 3) := by decide +kernel
theorem dX4_hard_6 : decode cX4_hard 6 = .ok (.iload_n 0, 1) := by decide +kernel
theorem dX4_hard_7 : decode cX4_hard 7 = .ok (.iconst 2, 1) := by decide +kernel
theorem dX4_hard_8 : decode cX4_hard 8 = .ok (.iload_n 1, 1) := by decide +kernel
theorem dX4_hard_9 : decode cX4_hard 9 = .ok (.imul, 1) := by decide +kernel
theorem dX4_hard_10 : decode cX4_hard 10 = .ok (.invokestatic 75, 3) := by decide +kernel
theorem dX4_hard_13 : decode cX4_hard 13 = .ok (.ireturn, 1) := by decide +kernel
theorem dX4_hard_14 : decode cX4_hard 14 = .ok (.iconst 2, 1) := by decide +kernel
theorem dX4_hard_15 : decode cX4_hard 15 = .ok (.iload_n 1, 1) := by decide +kernel
theorem dX4_hard_16 : decode cX4_hard 16 = .ok (.imul, 1) := by decide +kernel
theorem dX4_hard_17 : decode cX4_hard 17 = .ok (.sipush 255, 3) := by decide +kernel
theorem dX4_hard_20 : decode cX4_hard 20 = .ok (.isub, 1) := by decide +kernel
theorem dX4_hard_21 : decode cX4_hard 21 = .ok (.istore_n 2, 1) := by decide +kernel
theorem dX4_hard_22 : decode cX4_hard 22 = .ok (.iload_n 0, 1) := by decide +kernel
theorem dX4_hard_23 : decode cX4_hard 23 = .ok (.iload_n 2, 1) := by decide +kernel
theorem dX4_hard_24 : decode cX4_hard 24 = .ok (.iadd, 1) := by decide +kernel
theorem dX4_hard_25 : decode cX4_hard 25 = .ok (.iload_n 0, 1) := by decide +kernel
theorem dX4_hard_26 : decode cX4_hard 26 = .ok (.iload_n 2, 1) := by decide +kernel
theorem dX4_hard_27 : decode cX4_hard 27 = .ok (.invokestatic 75, 3) := by decide +kernel
theorem dX4_hard_30 : decode cX4_hard 30 = .ok (.isub, 1) := by decide +kernel
theorem dX4_hard_31 : decode cX4_hard 31 = .ok (.ireturn, 1) := by decide +kernel
theorem dX4_soft_0 : decode cX4_soft 0 = .ok (.iload_n 1, 1) := by decide +kernel
theorem dX4_soft_1 : decode cX4_soft 1 = .ok (.bipush 127, 2) := by decide +kernel
theorem dX4_soft_3 : decode cX4_soft 3 = .ok (.if_icmp .gt 30, 3) := by decide +kernel
theorem dX4_soft_6 : decode cX4_soft 6 = .ok (.iload_n 0, 1) := by decide +kernel
theorem dX4_soft_7 : decode cX4_soft 7 = .ok (.sipush 255, 3) := by decide +kernel
theorem dX4_soft_10 : decode cX4_soft 10 = .ok (.iconst 2, 1) := by decide +kernel
theorem dX4_soft_11 : decode cX4_soft 11 = .ok (.iload_n 1, 1) := by decide +kernel
theorem dX4_soft_12 : decode cX4_soft 12 = .ok (.imul, 1) := by decide +kernel
theorem dX4_soft_13 : decode cX4_soft 13 = .ok (.isub, 1) := by decide +kernel
theorem dX4_soft_14 : decode cX4_soft 14 = .ok (.iload_n 0, 1) := by decide +kernel
theorem dX4_soft_15 : decode cX4_soft 15 = .ok (.sipush 255, 3) := by decide +kernel
theorem dX4_soft_18 : decode cX4_soft 18 = .ok (.iload_n 0, 1) := by decide +kernel
theorem dX4_soft_19 : decode cX4_soft 19 = .ok (.isub, 1) := by decide +kernel
theorem dX4_soft_20 : decode cX4_soft 20 = .ok (.invokestatic 75, 3) := by decide +kernel
theorem dX4_soft_23 : decode cX4_soft 23 = .ok (.imul, 1) := by decide +kernel
theorem dX4_soft_24 : decode cX4_soft 24 = .ok (.bipush 127, 2) := by decide +kernel
theorem dX4_soft_26 : decode cX4_soft 26 = .ok (.iadd, 1) := by decide +kernel
theorem dX4_soft_27 : decode cX4_soft 27 = .ok (.sipush 255, 3) := by decide +kernel
theorem dX4_soft_30 : decode cX4_soft 30 = .ok (.idiv, 1) := by decide +kernel
theorem dX4_soft_31 : decode cX4_soft 31 = .ok (.isub, 1) := by decide +kernel
theorem dX4_soft_32 : decode cX4_soft 32 = .ok (.ireturn, 1) := by decide +kernel
theorem dX4_soft_33 : decode cX4_soft 33 = .ok (.iconst 0, 1) := by decide +kernel
theorem dX4_soft_34 : decode cX4_soft 34 = .ok (.istore_n 2, 1) := by decide +kernel
theorem dX4_soft_35 : decode cX4_soft 35 = .ok (.iload_n 2, 1) := by decide +kernel
theorem dX4_soft_36 : decode cX4_soft 36 = .ok (.iconst 1, 1) := by decide +kernel
theorem dX4_soft_37 : decode cX4_soft 37 = .ok (.iadd, 1) := by decide +kernel
theorem dX4_soft_38 : decode cX4_soft 38 = .ok (.iload_n 2, 1) := by decide +kernel
theorem dX4_soft_39 : decode cX4_soft 39 = .ok (.iconst 1, 1) := by decide +kernel
theorem dX4_soft_40 : decode cX4_soft 40 = .ok (.iadd, 1) := by decide +kernel
theorem dX4_soft_41 : decode cX4_soft 41 = .ok (.imul, 1) := by decide +kernel
theorem dX4_soft_42 : decode cX4_soft 42 = .ok (.sipush 255, 3) := by decide +kernel
theorem dX4_soft_45 : decode cX4_soft 45 = .ok (.iload_n 0, 1) := by decide +kernel
theorem dX4_soft_46 : decode cX4_soft 46 = .ok (.imul, 1) := by decide +kernel
theorem dX4_soft_47 : decode cX4_soft 47 = .ok (.if_icmp .gt 9, 3) := by decide +kernel
theorem dX4_soft_50 : decode cX4_soft 50 = .ok (.iinc 2 1, 3) := by decide +kernel
theorem dX4_soft_53 : decode cX4_soft 53 = .ok (.goto (-18), 3) := by decide +kernel
theorem dX4_soft_56 : decode cX4_soft 56 = .ok (.iload_n 0, 1) := by decide +kernel
theorem dX4_soft_57 : decode cX4_soft 57 = .ok (.iconst 2, 1) := by decide +kernel
theorem dX4_soft_58 : decode cX4_soft 58 = .ok (.iload_n 1, 1) := by decide +kernel
theorem dX4_soft_59 : decode cX4_soft 59 = .ok (.imul, 1) := by decide +kernel
theorem dX4_soft_60 : decode cX4_soft 60 = .ok (.sipush 255, 3) := by decide +kernel
theorem dX4_soft_63 : decode cX4_soft 63 = .ok (.isub, 1) := by decide +kernel
theorem dX4_soft_64 : decode cX4_soft 64 = .ok (.iload_n 2, 1) := by decide +kernel
theorem dX4_soft_65 : decode cX4_soft 65 = .ok (.iload_n 0, 1) := by decide +kernel
theorem dX4_soft_66 : decode cX4_soft 66 = .ok (.isub, 1) := by decide +kernel
theorem dX4_soft_67 : decode cX4_soft 67 = .ok (.imul, 1) := by decide +kernel
theorem dX4_soft_68 : decode cX4_soft 68 = .ok (.bipush 127, 2) := by decide +kernel
theorem dX4_soft_70 : decode cX4_soft 70 = .ok (.iadd, 1) := by decide +kernel
theorem dX4_soft_71 : decode cX4_soft 71 = .ok (.sipush 255, 3) := by decide +kernel
theorem dX4_soft_74 : decode cX4_soft 74 = .ok (.idiv, 1) := by decide +kernel
theorem dX4_soft_75 : decode cX4_soft 75 = .ok (.iadd, 1) := by decide +kernel
theorem dX4_soft_76 : decode cX4_soft 76 = .ok (.ireturn, 1) := by decide +kernel
theorem dX4_ofBytes_0 : decode cX4_ofBytes 0 = .ok (.iload_n 0, 1) := by decide +kernel
theorem dX4_ofBytes_1 : decode cX4_ofBytes 1 = .ok (.iconst 4, 1) := by decide +kernel
theorem dX4_ofBytes_2 : decode cX4_ofBytes 2 = .ok (.if_icmp .ge 47, 3) := by decide +kernel
theorem dX4_ofBytes_5 : decode cX4_ofBytes 5 = .ok (.iload_n 0, 1) := by decide +kernel
theorem dX4_ofBytes_6 : decode cX4_ofBytes 6 = .ok (.ifCond .ne 7, 3) := by decide +kernel
theorem dX4_ofBytes_9 : decode cX4_ofBytes 9 = .ok (.iload_n 2, 1) := by decide +kernel
theorem dX4_ofBytes_10 : decode cX4_ofBytes 10 = .ok (.goto 38, 3) := by decide +kernel
theorem dX4_ofBytes_13 : decode cX4_ofBytes 13 = .ok (.iload_n 0, 1) := by decide +kernel
theorem dX4_ofBytes_14 : decode cX4_ofBytes 14 = .ok (.iconst 1, 1) := by decide +kernel
theorem dX4_ofBytes_15 : decode cX4_ofBytes 15 = .ok (.if_icmp .ne 11, 3) := by decide +kernel
theorem dX4_ofBytes_18 : decode cX4_ofBytes 18 = .ok (.iload_n 1, 1) := by decide +kernel
theorem dX4_ofBytes_19 : decode cX4_ofBytes 19 = .ok (.iload_n 2, 1) := by decide +kernel
theorem dX4_ofBytes_20 : decode cX4_ofBytes 20 = .ok (.invokestatic 75, 3) := by decide +kernel
theorem dX4_ofBytes_23 : decode cX4_ofBytes 23 = .ok (.goto 25, 3) := by decide +kernel
theorem dX4_ofBytes_26 : decode cX4_ofBytes 26 = .ok (.iload_n 0, 1) := by decide +kernel
theorem dX4_ofBytes_27 : decode cX4_ofBytes 27 = .ok (.iconst 2, 1) := by decide +kernel
theorem dX4_ofBytes_28 : decode cX4_ofBytes 28 = .ok (.if_icmp .ne 15, 3) := by decide +kernel
theorem dX4_ofBytes_31 : decode cX4_ofBytes 31 = .ok (.iload_n 1, 1) := by decide +kernel
theorem dX4_ofBytes_32 : decode cX4_ofBytes 32 = .ok (.iload_n 2, 1) := by decide +kernel
theorem dX4_ofBytes_33 : decode cX4_ofBytes 33 = .ok (.iadd, 1) := by decide +kernel
theorem dX4_ofBytes_34 : decode cX4_ofBytes 34 = .ok (.iload_n 1, 1) := by decide +kernel
theorem dX4_ofBytes_35 : decode cX4_ofBytes 35 = .ok (.iload_n 2, 1) := by decide +kernel
theorem dX4_ofBytes_36 : decode cX4_ofBytes 36 = .ok (.invokestatic 75, 3) := by decide +kernel
theorem dX4_ofBytes_39 : decode cX4_ofBytes 39 = .ok (.isub, 1) := by decide +kernel
theorem dX4_ofBytes_40 : decode cX4_ofBytes 40 = .ok (.goto 8, 3) := by decide +kernel
theorem dX4_ofBytes_43 : decode cX4_ofBytes 43 = .ok (.iload_n 2, 1) := by decide +kernel
theorem dX4_ofBytes_44 : decode cX4_ofBytes 44 = .ok (.iload_n 1, 1) := by decide +kernel
theorem dX4_ofBytes_45 : decode cX4_ofBytes 45 = .ok (.invokestatic 79, 3) := by decide +kernel
theorem dX4_ofBytes_48 : decode cX4_ofBytes 48 = .ok (.ireturn, 1) := by decide +kernel
theorem dX4_ofBytes_49 : decode cX4_ofBytes 49 = .ok (.iload_n 0, 1) := by decide +kernel
theorem dX4_ofBytes_50 : decode cX4_ofBytes 50 = .ok (.bipush 8, 2) := by decide +kernel
theorem dX4_ofBytes_52 : decode cX4_ofBytes 52 = .ok (.if_icmp .ge 59, 3) := by decide +kernel
theorem dX4_ofBytes_55 : decode cX4_ofBytes 55 = .ok (.iload_n 0, 1) := by decide +kernel
theorem dX4_ofBytes_56 : decode cX4_ofBytes 56 = .ok (.iconst 4, 1) := by decide +kernel
theorem dX4_ofBytes_57 : decode cX4_ofBytes 57 = .ok (.if_icmp .ne 16, 3) := by decide +kernel
theorem dX4_ofBytes_60 : decode cX4_ofBytes 60 = .ok (.iload_n 1, 1) := by decide +kernel
theorem dX4_ofBytes_61 : decode cX4_ofBytes 61 = .ok (.iload_n 2, 1) := by decide +kernel
theorem dX4_ofBytes_62 : decode cX4_ofBytes 62 = .ok (.if_icmp .ge 7, 3) := by decide +kernel
theorem dX4_ofBytes_65 : decode cX4_ofBytes 65 = .ok (.iload_n 1, 1) := by decide +kernel
theorem dX4_ofBytes_66 : decode cX4_ofBytes 66 = .ok (.goto 44, 3) := by decide +kernel
theorem dX4_ofBytes_69 : decode cX4_ofBytes 69 = .ok (.iload_n 2, 1) := by decide +kernel
theorem dX4_ofBytes_70 : decode cX4_ofBytes 70 = .ok (.goto 40, 3) := by decide +kernel
theorem dX4_ofBytes_73 : decode cX4_ofBytes 73 = .ok (.iload_n 0, 1) := by decide +kernel
theorem dX4_ofBytes_74 : decode cX4_ofBytes 74 = .ok (.iconst 5, 1) := by decide +kernel
theorem dX4_ofBytes_75 : decode cX4_ofBytes 75 = .ok (.if_icmp .ne 16, 3) := by decide +kernel
theorem dX4_ofBytes_78 : decode cX4_ofBytes 78 = .ok (.iload_n 1, 1) := by decide +kernel
theorem dX4_ofBytes_79 : decode cX4_ofBytes 79 = .ok (.iload_n 2, 1) := by decide +kernel
theorem dX4_ofBytes_80 : decode cX4_ofBytes 80 = .ok (.if_icmp .le 7, 3) := by decide +kernel
theorem dX4_ofBytes_83 : decode cX4_ofBytes 83 = .ok (.iload_n 1, 1) := by decide +kernel
theorem dX4_ofBytes_84 : decode cX4_ofBytes 84 = .ok (.goto 26, 3) := by decide +kernel
theorem dX4_ofBytes_87 : decode cX4_ofBytes 87 = .ok (.iload_n 2, 1) := by decide +kernel
theorem dX4_ofBytes_88 : decode cX4_ofBytes 88 = .ok (.goto 22, 3) := by decide +kernel
theorem dX4_ofBytes_91 : decode cX4_ofBytes 91 = .ok (.iload_n 0, 1) := by decide +kernel
theorem dX4_ofBytes_92 : decode cX4_ofBytes 92 = .ok (.bipush 6, 2) := by decide +kernel
theorem dX4_ofBytes_94 : decode cX4_ofBytes 94 = .ok (.if_icmp .ne 11, 3) := by decide +kernel
theorem dX4_ofBytes_97 : decode cX4_ofBytes 97 = .ok (.iload_n 1, 1) := by decide +kernel
theorem dX4_ofBytes_98 : decode cX4_ofBytes 98 = .ok (.iload_n 2, 1) := by decide +kernel
theorem dX4_ofBytes_99 : decode cX4_ofBytes 99 = .ok (.invokestatic 82, 3) := by decide +kernel
theorem dX4_ofBytes_102 : decode cX4_ofBytes 102 = .ok (.goto 8, 3) := by decide +kernel
theorem dX4_ofBytes_105 : decode cX4_ofBytes 105 = .ok (.iload_n 1, 1) := by decide +kernel
theorem dX4_ofBytes_106 : decode cX4_ofBytes 106 = .ok (.iload_n 2, 1) := by decide +kernel
theorem dX4_ofBytes_107 : decode cX4_ofBytes 107 = .ok (.invokestatic 85, 3) := by decide +kernel
theorem dX4_ofBytes_110 : decode cX4_ofBytes 110 = .ok (.ireturn, 1) := by decide +kernel
theorem dX4_ofBytes_111 : decode cX4_ofBytes 111 = .ok (.iload_n 0, 1) := by decide +kernel
theorem dX4_ofBytes_112 : decode cX4_ofBytes 112 = .ok (.bipush 10, 2) := by decide +kernel
theorem dX4_ofBytes_114 : decode cX4_ofBytes 114 = .ok (.if_icmp .ge 23, 3) := by decide +kernel
theorem dX4_ofBytes_117 : decode cX4_ofBytes 117 = .ok (.iload_n 0, 1) := by decide +kernel
theorem dX4_ofBytes_118 : decode cX4_ofBytes 118 = .ok (.bipush 8, 2) := by decide +kernel
theorem dX4_ofBytes_120 : decode cX4_ofBytes 120 = .ok (.if_icmp .ne 11, 3) := by decide +kernel
theorem dX4_ofBytes_123 : decode cX4_ofBytes 123 = .ok (.iload_n 1, 1) := by decide +kernel
theorem dX4_ofBytes_124 : decode cX4_ofBytes 124 = .ok (.iload_n 2, 1) := by decide +kernel
theorem dX4_ofBytes_125 : decode cX4_ofBytes 125 = .ok (.invokestatic 79, 3) := by decide +kernel
theorem dX4_ofBytes_128 : decode cX4_ofBytes 128 = .ok (.goto 8, 3) := by decide +kernel
theorem dX4_ofBytes_131 : decode cX4_ofBytes 131 = .ok (.iload_n 1, 1) := by decide +kernel
theorem dX4_ofBytes_132 : decode cX4_ofBytes 132 = .ok (.iload_n 2, 1) := by decide +kernel
theorem dX4_ofBytes_133 : decode cX4_ofBytes 133 = .ok (.invokestatic 88, 3) := by decide +kernel
theorem dX4_ofBytes_136 : decode cX4_ofBytes 136 = .ok (.ireturn, 1) := by decide +kernel
theorem dX4_ofBytes_137 : decode cX4_ofBytes 137 = .ok (.iload_n 1, 1) := by decide +kernel
theorem dX4_ofBytes_138 : decode cX4_ofBytes 138 = .ok (.iload_n 2, 1) := by decide +kernel
theorem dX4_ofBytes_139 : decode cX4_ofBytes 139 = .ok (.iadd, 1) := by decide +kernel
theorem dX4_ofBytes_140 : decode cX4_ofBytes 140 = .ok (.iconst 2, 1) := by decide +kernel
theorem dX4_ofBytes_141 : decode cX4_ofBytes 141 = .ok (.iload_n 1, 1) := by decide +kernel
theorem dX4_ofBytes_142 : decode cX4_ofBytes 142 = .ok (.iload_n 2, 1) := by decide +kernel
theorem dX4_ofBytes_143 : decode cX4_ofBytes 143 = .ok (.invokestatic 75, 3) := by decide +kernel
theorem dX4_ofBytes_146 : decode cX4_ofBytes 146 = .ok (.imul, 1) := by decide +kernel
theorem dX4_ofBytes_147 : decode cX4_ofBytes 147 = .ok (.isub, 1) := by decide +kernel
theorem dX4_ofBytes_148 : decode cX4_ofBytes 148 = .ok (.istore_n 3, 1) := by decide +kernel
theorem dX4_ofBytes_149 : decode cX4_ofBytes 149 = .ok (.iload_n 0, 1) := by decide +kernel
theorem dX4_ofBytes_150 : decode cX4_ofBytes 150 = .ok (.bipush 10, 2) := by decide +kernel
theorem dX4_ofBytes_152 : decode cX4_ofBytes 152 = .ok (.if_icmp .ne 20, 3) := by decide +kernel
theorem dX4_ofBytes_155 : decode cX4_ofBytes 155 = .ok (.iload_n 1, 1) := by decide +kernel
theorem dX4_ofBytes_156 : decode cX4_ofBytes 156 = .ok (.iload_n 2, 1) := by decide +kernel
theorem dX4_ofBytes_157 : decode cX4_ofBytes 157 = .ok (.if_icmp .le 9, 3) := by decide +kernel
theorem dX4_ofBytes_160 : decode cX4_ofBytes 160 = .ok (.iload_n 1, 1) := by decide +kernel
theorem dX4_ofBytes_161 : decode cX4_ofBytes 161 = .ok (.iload_n 2, 1) := by decide +kernel
theorem dX4_ofBytes_162 : decode cX4_ofBytes 162 = .ok (.isub, 1) := by decide +kernel
theorem dX4_ofBytes_163 : decode cX4_ofBytes 163 = .ok (.goto 18, 3) := by decide +kernel
theorem dX4_ofBytes_166 : decode cX4_ofBytes 166 = .ok (.iload_n 2, 1) := by decide +kernel
theorem dX4_ofBytes_167 : decode cX4_ofBytes 167 = .ok (.iload_n 1, 1) := by decide +kernel
theorem dX4_ofBytes_168 : decode cX4_ofBytes 168 = .ok (.isub, 1) := by decide +kernel
theorem dX4_ofBytes_169 : decode cX4_ofBytes 169 = .ok (.goto 12, 3) := by decide +kernel
theorem dX4_ofBytes_172 : decode cX4_ofBytes 172 = .ok (.iload_n 3, 1) := by decide +kernel
theorem dX4_ofBytes_173 : decode cX4_ofBytes 173 = .ok (.ifCond .ge 7, 3) := by decide +kernel
theorem dX4_ofBytes_176 : decode cX4_ofBytes 176 = .ok (.iconst 0, 1) := by decide +kernel
theorem dX4_ofBytes_177 : decode cX4_ofBytes 177 = .ok (.goto 4, 3) := by decide +kernel
theorem dX4_ofBytes_180 : decode cX4_ofBytes 180 = .ok (.iload_n 3, 1) := by decide +kernel
theorem dX4_ofBytes_181 : decode cX4_ofBytes 181 = .ok (.ireturn, 1) := by decide +kernel
theorem dX4_down_0 : decode cX4_down 0 = .ok (.iload_n 0, 1) := by decide +kernel
theorem dX4_down_1 : decode cX4_down 1 = .ok (.iload_n 1, 1) := by decide +kernel
theorem dX4_down_2 : decode cX4_down 2 = .ok (.idiv, 1) := by decide +kernel
theorem dX4_down_3 : decode cX4_down 3 = .ok (.istore_n 2, 1) := by decide +kernel
theorem dX4_down_4 : decode cX4_down 4 = .ok (.iload_n 0, 1) := by decide +kernel
theorem dX4_down_5 : decode cX4_down 5 = .ok (.iload_n 1, 1) := by decide +kernel
theorem dX4_down_6 : decode cX4_down 6 = .ok (.irem, 1) := by decide +kernel
theorem dX4_down_7 : decode cX4_down 7 = .ok (.ifCond .eq 30, 3) := by decide +kernel
theorem dX4_down_10 : decode cX4_down 10 = .ok (.iload_n 0, 1) := by decide +kernel
theorem dX4_down_11 : decode cX4_down 11 = .ok (.ifCond .ge 7, 3) := by decide +kernel
theorem dX4_down_14 : decode cX4_down 14 = .ok (.iconst 1, 1) := by decide +kernel
theorem dX4_down_15 : decode cX4_down 15 = .ok (.goto 4, 3) := by decide +kernel
theorem dX4_down_18 : decode cX4_down 18 = .ok (.iconst 0, 1) := by decide +kernel
theorem dX4_down_19 : decode cX4_down 19 = .ok (.iload_n 1, 1) := by decide +kernel
theorem dX4_down_20 : decode cX4_down 20 = .ok (.ifCond .ge 7, 3) := by decide +kernel
theorem dX4_down_23 : decode cX4_down 23 = .ok (.iconst 1, 1) := by decide +kernel
theorem dX4_down_24 : decode cX4_down 24 = .ok (.goto 4, 3) := by decide +kernel
theorem dX4_down_27 : decode cX4_down 27 = .ok (.iconst 0, 1) := by decide +kernel
theorem dX4_down_28 : decode cX4_down 28 = .ok (.if_icmp .eq 9, 3) := by decide +kernel
theorem dX4_down_31 : decode cX4_down 31 = .ok (.iload_n 2, 1) := by decide +kernel
theorem dX4_down_32 : decode cX4_down 32 = .ok (.iconst 1, 1) := by decide +kernel
theorem dX4_down_33 : decode cX4_down 33 = .ok (.isub, 1) := by decide +kernel
theorem dX4_down_34 : decode cX4_down 34 = .ok (.goto 4, 3) := by decide +kernel
theorem dX4_down_37 : decode cX4_down 37 = .ok (.iload_n 2, 1) := by decide +kernel
theorem dX4_down_38 : decode cX4_down 38 = .ok (.ireturn, 1) := by decide +kernel
theorem dX4_lum_0 : decode cX4_lum 0 = .ok (.bipush 30, 2) := by decide +kernel
theorem dX4_lum_2 : decode cX4_lum 2 = .ok (.aload_n 0, 1) := by decide +kernel
theorem dX4_lum_3 : decode cX4_lum 3 = .ok (.iconst 0, 1) := by decide +kernel
theorem dX4_lum_4 : decode cX4_lum 4 = .ok (.iaload, 1) := by decide +kernel
theorem dX4_lum_5 : decode cX4_lum 5 = .ok (.imul, 1) := by decide +kernel
theorem dX4_lum_6 : decode cX4_lum 6 = .ok (.bipush 59, 2) := by decide +kernel
theorem dX4_lum_8 : decode cX4_lum 8 = .ok (.aload_n 0, 1) := by decide +kernel
theorem dX4_lum_9 : decode cX4_lum 9 = .ok (.iconst 1, 1) := by decide +kernel
theorem dX4_lum_10 : decode cX4_lum 10 = .ok (.iaload, 1) := by decide +kernel
theorem dX4_lum_11 : decode cX4_lum 11 = .ok (.imul, 1) := by decide +kernel
theorem dX4_lum_12 : decode cX4_lum 12 = .ok (.iadd, 1) := by decide +kernel
theorem dX4_lum_13 : decode cX4_lum 13 = .ok (.bipush 11, 2) := by decide +kernel
theorem dX4_lum_15 : decode cX4_lum 15 = .ok (.aload_n 0, 1) := by decide +kernel
theorem dX4_lum_16 : decode cX4_lum 16 = .ok (.iconst 2, 1) := by decide +kernel
theorem dX4_lum_17 : decode cX4_lum 17 = .ok (.iaload, 1) := by decide +kernel
theorem dX4_lum_18 : decode cX4_lum 18 = .ok (.imul, 1) := by decide +kernel
theorem dX4_lum_19 : decode cX4_lum 19 = .ok (.iadd, 1) := by decide +kernel
theorem dX4_lum_20 : decode cX4_lum 20 = .ok (.bipush 100, 2) := by decide +kernel
theorem dX4_lum_22 : decode cX4_lum 22 = .ok (.invokestatic 91, 3) := by decide +kernel
theorem dX4_lum_25 : decode cX4_lum 25 = .ok (.ireturn, 1) := by decide +kernel
theorem dX4_least_0 : decode cX4_least 0 = .ok (.aload_n 0, 1) := by decide +kernel
theorem dX4_least_1 : decode cX4_least 1 = .ok (.iconst 0, 1) := by decide +kernel
theorem dX4_least_2 : decode cX4_least 2 = .ok (.iaload, 1) := by decide +kernel
theorem dX4_least_3 : decode cX4_least 3 = .ok (.aload_n 0, 1) := by decide +kernel
theorem dX4_least_4 : decode cX4_least 4 = .ok (.iconst 1, 1) := by decide +kernel
theorem dX4_least_5 : decode cX4_least 5 = .ok (.iaload, 1) := by decide +kernel
theorem dX4_least_6 : decode cX4_least 6 = .ok (.if_icmp .ge 9, 3) := by decide +kernel
theorem dX4_least_9 : decode cX4_least 9 = .ok (.aload_n 0, 1) := by decide +kernel
theorem dX4_least_10 : decode cX4_least 10 = .ok (.iconst 0, 1) := by decide +kernel
theorem dX4_least_11 : decode cX4_least 11 = .ok (.iaload, 1) := by decide +kernel
theorem dX4_least_12 : decode cX4_least 12 = .ok (.goto 6, 3) := by decide +kernel
theorem dX4_least_15 : decode cX4_least 15 = .ok (.aload_n 0, 1) := by decide +kernel
theorem dX4_least_16 : decode cX4_least 16 = .ok (.iconst 1, 1) := by decide +kernel
theorem dX4_least_17 : decode cX4_least 17 = .ok (.iaload, 1) := by decide +kernel
theorem dX4_least_18 : decode cX4_least 18 = .ok (.istore_n 1, 1) := by decide +kernel
theorem dX4_least_19 : decode cX4_least 19 = .ok (.iload_n 1, 1) := by decide +kernel
theorem dX4_least_20 : decode cX4_least 20 = .ok (.aload_n 0, 1) := by decide +kernel
theorem dX4_least_21 : decode cX4_least 21 = .ok (.iconst 2, 1) := by decide +kernel
theorem dX4_least_22 : decode cX4_least 22 = .ok (.iaload, 1) := by decide +kernel
theorem dX4_least_23 : decode cX4_least 23 = .ok (.if_icmp .ge 7, 3) := by decide +kernel
theorem dX4_least_26 : decode cX4_least 26 = .ok (.iload_n 1, 1) := by decide +kernel
theorem dX4_least_27 : decode cX4_least 27 = .ok (.goto 6, 3) := by decide +kernel
theorem dX4_least_30 : decode cX4_least 30 = .ok (.aload_n 0, 1) := by decide +kernel
theorem dX4_least_31 : decode cX4_least 31 = .ok (.iconst 2, 1) := by decide +kernel
theorem dX4_least_32 : decode cX4_least 32 = .ok (.iaload, 1) := by decide +kernel
theorem dX4_least_33 : decode cX4_least 33 = .ok (.ireturn, 1) := by decide +kernel
theorem dX4_greatest_0 : decode cX4_greatest 0 = .ok (.aload_n 0, 1) := by decide +kernel
theorem dX4_greatest_1 : decode cX4_greatest 1 = .ok (.iconst 0, 1) := by decide +kernel
theorem dX4_greatest_2 : decode cX4_greatest 2 = .ok (.iaload, 1) := by decide +kernel
theorem dX4_greatest_3 : decode cX4_greatest 3 = .ok (.aload_n 0, 1) := by decide +kernel
theorem dX4_greatest_4 : decode cX4_greatest 4 = .ok (.iconst 1, 1) := by decide +kernel
theorem dX4_greatest_5 : decode cX4_greatest 5 = .ok (.iaload, 1) := by decide +kernel
theorem dX4_greatest_6 : decode cX4_greatest 6 = .ok (.if_icmp .le 9, 3) := by decide +kernel
theorem dX4_greatest_9 : decode cX4_greatest 9 = .ok (.aload_n 0, 1) := by decide +kernel
theorem dX4_greatest_10 : decode cX4_greatest 10 = .ok (.iconst 0, 1) := by decide +kernel
theorem dX4_greatest_11 : decode cX4_greatest 11 = .ok (.iaload, 1) := by decide +kernel
theorem dX4_greatest_12 : decode cX4_greatest 12 = .ok (.goto 6, 3) := by decide +kernel
theorem dX4_greatest_15 : decode cX4_greatest 15 = .ok (.aload_n 0, 1) := by decide +kernel
theorem dX4_greatest_16 : decode cX4_greatest 16 = .ok (.iconst 1, 1) := by decide +kernel
theorem dX4_greatest_17 : decode cX4_greatest 17 = .ok (.iaload, 1) := by decide +kernel
theorem dX4_greatest_18 : decode cX4_greatest 18 = .ok (.istore_n 1, 1) := by decide +kernel
theorem dX4_greatest_19 : decode cX4_greatest 19 = .ok (.iload_n 1, 1) := by decide +kernel
theorem dX4_greatest_20 : decode cX4_greatest 20 = .ok (.aload_n 0, 1) := by decide +kernel
theorem dX4_greatest_21 : decode cX4_greatest 21 = .ok (.iconst 2, 1) := by decide +kernel
theorem dX4_greatest_22 : decode cX4_greatest 22 = .ok (.iaload, 1) := by decide +kernel
theorem dX4_greatest_23 : decode cX4_greatest 23 = .ok (.if_icmp .le 7, 3) := by decide +kernel
theorem dX4_greatest_26 : decode cX4_greatest 26 = .ok (.iload_n 1, 1) := by decide +kernel
theorem dX4_greatest_27 : decode cX4_greatest 27 = .ok (.goto 6, 3) := by decide +kernel
theorem dX4_greatest_30 : decode cX4_greatest 30 = .ok (.aload_n 0, 1) := by decide +kernel
theorem dX4_greatest_31 : decode cX4_greatest 31 = .ok (.iconst 2, 1) := by decide +kernel
theorem dX4_greatest_32 : decode cX4_greatest 32 = .ok (.iaload, 1) := by decide +kernel
theorem dX4_greatest_33 : decode cX4_greatest 33 = .ok (.ireturn, 1) := by decide +kernel
theorem dX4_sat_0 : decode cX4_sat 0 = .ok (.aload_n 0, 1) := by decide +kernel
theorem dX4_sat_1 : decode cX4_sat 1 = .ok (.invokestatic 94, 3) := by decide +kernel
theorem dX4_sat_4 : decode cX4_sat 4 = .ok (.aload_n 0, 1) := by decide +kernel
theorem dX4_sat_5 : decode cX4_sat 5 = .ok (.invokestatic 98, 3) := by decide +kernel
theorem dX4_sat_8 : decode cX4_sat 8 = .ok (.isub, 1) := by decide +kernel
theorem dX4_sat_9 : decode cX4_sat 9 = .ok (.ireturn, 1) := by decide +kernel
theorem dX4_setSat_0 : decode cX4_setSat 0 = .ok (.aload_n 0, 1) := by decide +kernel
theorem dX4_setSat_1 : decode cX4_setSat 1 = .ok (.getfield 63, 3) := by decide +kernel
theorem dX4_setSat_4 : decode cX4_setSat 4 = .ok (.invokestatic 98, 3) := by decide +kernel
theorem dX4_setSat_7 : decode cX4_setSat 7 = .ok (.istore_n 2, 1) := by decide +kernel
theorem dX4_setSat_8 : decode cX4_setSat 8 = .ok (.aload_n 0, 1) := by decide +kernel
theorem dX4_setSat_9 : decode cX4_setSat 9 = .ok (.getfield 63, 3) := by decide +kernel
theorem dX4_setSat_12 : decode cX4_setSat 12 = .ok (.invokestatic 101, 3) := by decide +kernel
theorem dX4_setSat_15 : decode cX4_setSat 15 = .ok (.istore_n 3, 1) := by decide +kernel
theorem dX4_setSat_16 : decode cX4_setSat 16 = .ok (.iconst 0, 1) := by decide +kernel
theorem dX4_setSat_17 : decode cX4_setSat 17 = .ok (.istore 4, 2) := by decide +kernel
theorem dX4_setSat_19 : decode cX4_setSat 19 = .ok (.iload 4, 2) := by decide +kernel
theorem dX4_setSat_21 : decode cX4_setSat 21 = .ok (.iconst 3, 1) := by decide +kernel
theorem dX4_setSat_22 : decode cX4_setSat 22 = .ok (.if_icmp .ge 37, 3) := by decide +kernel
theorem dX4_setSat_25 : decode cX4_setSat 25 = .ok (.aload_n 0, 1) := by decide +kernel
theorem dX4_setSat_26 : decode cX4_setSat 26 = .ok (.getfield 63, 3) := by decide +kernel
theorem dX4_setSat_29 : decode cX4_setSat 29 = .ok (.iload 4, 2) := by decide +kernel
theorem dX4_setSat_31 : decode cX4_setSat 31 = .ok (.iload_n 3, 1) := by decide +kernel
theorem dX4_setSat_32 : decode cX4_setSat 32 = .ok (.ifCond .ne 7, 3) := by decide +kernel
theorem dX4_setSat_35 : decode cX4_setSat 35 = .ok (.iconst 0, 1) := by decide +kernel
theorem dX4_setSat_36 : decode cX4_setSat 36 = .ok (.goto 16, 3) := by decide +kernel
theorem dX4_setSat_39 : decode cX4_setSat 39 = .ok (.aload_n 0, 1) := by decide +kernel
theorem dX4_setSat_40 : decode cX4_setSat 40 = .ok (.getfield 63, 3) := by decide +kernel
theorem dX4_setSat_43 : decode cX4_setSat 43 = .ok (.iload 4, 2) := by decide +kernel
theorem dX4_setSat_45 : decode cX4_setSat 45 = .ok (.iaload, 1) := by decide +kernel
theorem dX4_setSat_46 : decode cX4_setSat 46 = .ok (.iload_n 2, 1) := by decide +kernel
theorem dX4_setSat_47 : decode cX4_setSat 47 = .ok (.isub, 1) := by decide +kernel
theorem dX4_setSat_48 : decode cX4_setSat 48 = .ok (.iload_n 1, 1) := by decide +kernel
theorem dX4_setSat_49 : decode cX4_setSat 49 = .ok (.imul, 1) := by decide +kernel
theorem dX4_setSat_50 : decode cX4_setSat 50 = .ok (.iload_n 3, 1) := by decide +kernel
theorem dX4_setSat_51 : decode cX4_setSat 51 = .ok (.idiv, 1) := by decide +kernel
theorem dX4_setSat_52 : decode cX4_setSat 52 = .ok (.iastore, 1) := by decide +kernel
theorem dX4_setSat_53 : decode cX4_setSat 53 = .ok (.iinc 4 1, 3) := by decide +kernel
theorem dX4_setSat_56 : decode cX4_setSat 56 = .ok (.goto (-37), 3) := by decide +kernel
theorem dX4_setSat_59 : decode cX4_setSat 59 = .ok (.return_, 1) := by decide +kernel
theorem dX4_setLum_0 : decode cX4_setLum 0 = .ok (.iload_n 1, 1) := by decide +kernel
theorem dX4_setLum_1 : decode cX4_setLum 1 = .ok (.aload_n 0, 1) := by decide +kernel
theorem dX4_setLum_2 : decode cX4_setLum 2 = .ok (.getfield 63, 3) := by decide +kernel
theorem dX4_setLum_5 : decode cX4_setLum 5 = .ok (.invokestatic 104, 3) := by decide +kernel
theorem dX4_setLum_8 : decode cX4_setLum 8 = .ok (.isub, 1) := by decide +kernel
theorem dX4_setLum_9 : decode cX4_setLum 9 = .ok (.istore_n 2, 1) := by decide +kernel
theorem dX4_setLum_10 : decode cX4_setLum 10 = .ok (.iconst 0, 1) := by decide +kernel
theorem dX4_setLum_11 : decode cX4_setLum 11 = .ok (.istore_n 3, 1) := by decide +kernel
theorem dX4_setLum_12 : decode cX4_setLum 12 = .ok (.iload_n 3, 1) := by decide +kernel
theorem dX4_setLum_13 : decode cX4_setLum 13 = .ok (.iconst 3, 1) := by decide +kernel
theorem dX4_setLum_14 : decode cX4_setLum 14 = .ok (.if_icmp .ge 23, 3) := by decide +kernel
theorem dX4_setLum_17 : decode cX4_setLum 17 = .ok (.aload_n 0, 1) := by decide +kernel
theorem dX4_setLum_18 : decode cX4_setLum 18 = .ok (.getfield 63, 3) := by decide +kernel
theorem dX4_setLum_21 : decode cX4_setLum 21 = .ok (.iload_n 3, 1) := by decide +kernel
theorem dX4_setLum_22 : decode cX4_setLum 22 = .ok (.aload_n 0, 1) := by decide +kernel
theorem dX4_setLum_23 : decode cX4_setLum 23 = .ok (.getfield 63, 3) := by decide +kernel
theorem dX4_setLum_26 : decode cX4_setLum 26 = .ok (.iload_n 3, 1) := by decide +kernel
theorem dX4_setLum_27 : decode cX4_setLum 27 = .ok (.iaload, 1) := by decide +kernel
theorem dX4_setLum_28 : decode cX4_setLum 28 = .ok (.iload_n 2, 1) := by decide +kernel
theorem dX4_setLum_29 : decode cX4_setLum 29 = .ok (.iadd, 1) := by decide +kernel
theorem dX4_setLum_30 : decode cX4_setLum 30 = .ok (.iastore, 1) := by decide +kernel
theorem dX4_setLum_31 : decode cX4_setLum 31 = .ok (.iinc 3 1, 3) := by decide +kernel
theorem dX4_setLum_34 : decode cX4_setLum 34 = .ok (.goto (-22), 3) := by decide +kernel
theorem dX4_setLum_37 : decode cX4_setLum 37 = .ok (.aload_n 0, 1) := by decide +kernel
theorem dX4_setLum_38 : decode cX4_setLum 38 = .ok (.getfield 63, 3) := by decide +kernel
theorem dX4_setLum_41 : decode cX4_setLum 41 = .ok (.invokestatic 104, 3) := by decide +kernel
theorem dX4_setLum_44 : decode cX4_setLum 44 = .ok (.istore_n 3, 1) := by decide +kernel
theorem dX4_setLum_45 : decode cX4_setLum 45 = .ok (.aload_n 0, 1) := by decide +kernel
theorem dX4_setLum_46 : decode cX4_setLum 46 = .ok (.getfield 63, 3) := by decide +kernel
theorem dX4_setLum_49 : decode cX4_setLum 49 = .ok (.invokestatic 98, 3) := by decide +kernel
theorem dX4_setLum_52 : decode cX4_setLum 52 = .ok (.istore 4, 2) := by decide +kernel
theorem dX4_setLum_54 : decode cX4_setLum 54 = .ok (.aload_n 0, 1) := by decide +kernel
theorem dX4_setLum_55 : decode cX4_setLum 55 = .ok (.getfield 63, 3) := by decide +kernel
theorem dX4_setLum_58 : decode cX4_setLum 58 = .ok (.invokestatic 94, 3) := by decide +kernel
theorem dX4_setLum_61 : decode cX4_setLum 61 = .ok (.istore 5, 2) := by decide +kernel
theorem dX4_setLum_63 : decode cX4_setLum 63 = .ok (.iconst 0, 1) := by decide +kernel
theorem dX4_setLum_64 : decode cX4_setLum 64 = .ok (.istore 6, 2) := by decide +kernel
theorem dX4_setLum_66 : decode cX4_setLum 66 = .ok (.iload 6, 2) := by decide +kernel
theorem dX4_setLum_68 : decode cX4_setLum 68 = .ok (.iconst 3, 1) := by decide +kernel
theorem dX4_setLum_69 : decode cX4_setLum 69 = .ok (.if_icmp .ge 41, 3) := by decide +kernel
theorem dX4_setLum_72 : decode cX4_setLum 72 = .ok (.iload 4, 2) := by decide +kernel
theorem dX4_setLum_74 : decode cX4_setLum 74 = .ok (.ifCond .ge 36, 3) := by decide +kernel
theorem dX4_setLum_77 : decode cX4_setLum 77 = .ok (.aload_n 0, 1) := by decide +kernel
theorem dX4_setLum_78 : decode cX4_setLum 78 = .ok (.getfield 63, 3) := by decide +kernel
theorem dX4_setLum_81 : decode cX4_setLum 81 = .ok (.iload 6, 2) := by decide +kernel
theorem dX4_setLum_83 : decode cX4_setLum 83 = .ok (.iload_n 3, 1) := by decide +kernel
theorem dX4_setLum_84 : decode cX4_setLum 84 = .ok (.aload_n 0, 1) := by decide +kernel
theorem dX4_setLum_85 : decode cX4_setLum 85 = .ok (.getfield 63, 3) := by decide +kernel
theorem dX4_setLum_88 : decode cX4_setLum 88 = .ok (.iload 6, 2) := by decide +kernel
theorem dX4_setLum_90 : decode cX4_setLum 90 = .ok (.iaload, 1) := by decide +kernel
theorem dX4_setLum_91 : decode cX4_setLum 91 = .ok (.iload_n 3, 1) := by decide +kernel
theorem dX4_setLum_92 : decode cX4_setLum 92 = .ok (.isub, 1) := by decide +kernel
theorem dX4_setLum_93 : decode cX4_setLum 93 = .ok (.iload_n 3, 1) := by decide +kernel
theorem dX4_setLum_94 : decode cX4_setLum 94 = .ok (.imul, 1) := by decide +kernel
theorem dX4_setLum_95 : decode cX4_setLum 95 = .ok (.iload_n 3, 1) := by decide +kernel
theorem dX4_setLum_96 : decode cX4_setLum 96 = .ok (.iload 4, 2) := by decide +kernel
theorem dX4_setLum_98 : decode cX4_setLum 98 = .ok (.isub, 1) := by decide +kernel
theorem dX4_setLum_99 : decode cX4_setLum 99 = .ok (.invokestatic 91, 3) := by decide +kernel
theorem dX4_setLum_102 : decode cX4_setLum 102 = .ok (.iadd, 1) := by decide +kernel
theorem dX4_setLum_103 : decode cX4_setLum 103 = .ok (.iastore, 1) := by decide +kernel
theorem dX4_setLum_104 : decode cX4_setLum 104 = .ok (.iinc 6 1, 3) := by decide +kernel
theorem dX4_setLum_107 : decode cX4_setLum 107 = .ok (.goto (-41), 3) := by decide +kernel
theorem dX4_setLum_110 : decode cX4_setLum 110 = .ok (.iconst 0, 1) := by decide +kernel
theorem dX4_setLum_111 : decode cX4_setLum 111 = .ok (.istore 6, 2) := by decide +kernel
theorem dX4_setLum_113 : decode cX4_setLum 113 = .ok (.iload 6, 2) := by decide +kernel
theorem dX4_setLum_115 : decode cX4_setLum 115 = .ok (.iconst 3, 1) := by decide +kernel
theorem dX4_setLum_116 : decode cX4_setLum 116 = .ok (.if_icmp .ge 48, 3) := by decide +kernel
theorem dX4_setLum_119 : decode cX4_setLum 119 = .ok (.iload 5, 2) := by decide +kernel
theorem dX4_setLum_121 : decode cX4_setLum 121 = .ok (.sipush 255, 3) := by decide +kernel
theorem dX4_setLum_124 : decode cX4_setLum 124 = .ok (.if_icmp .le 40, 3) := by decide +kernel
theorem dX4_setLum_127 : decode cX4_setLum 127 = .ok (.aload_n 0, 1) := by decide +kernel
theorem dX4_setLum_128 : decode cX4_setLum 128 = .ok (.getfield 63, 3) := by decide +kernel
theorem dX4_setLum_131 : decode cX4_setLum 131 = .ok (.iload 6, 2) := by decide +kernel
theorem dX4_setLum_133 : decode cX4_setLum 133 = .ok (.iload_n 3, 1) := by decide +kernel
theorem dX4_setLum_134 : decode cX4_setLum 134 = .ok (.aload_n 0, 1) := by decide +kernel
theorem dX4_setLum_135 : decode cX4_setLum 135 = .ok (.getfield 63, 3) := by decide +kernel
theorem dX4_setLum_138 : decode cX4_setLum 138 = .ok (.iload 6, 2) := by decide +kernel
theorem dX4_setLum_140 : decode cX4_setLum 140 = .ok (.iaload, 1) := by decide +kernel
theorem dX4_setLum_141 : decode cX4_setLum 141 = .ok (.iload_n 3, 1) := by decide +kernel
theorem dX4_setLum_142 : decode cX4_setLum 142 = .ok (.isub, 1) := by decide +kernel
theorem dX4_setLum_143 : decode cX4_setLum 143 = .ok (.sipush 255, 3) := by decide +kernel
theorem dX4_setLum_146 : decode cX4_setLum 146 = .ok (.iload_n 3, 1) := by decide +kernel
theorem dX4_setLum_147 : decode cX4_setLum 147 = .ok (.isub, 1) := by decide +kernel
theorem dX4_setLum_148 : decode cX4_setLum 148 = .ok (.imul, 1) := by decide +kernel
theorem dX4_setLum_149 : decode cX4_setLum 149 = .ok (.iload 5, 2) := by decide +kernel
theorem dX4_setLum_151 : decode cX4_setLum 151 = .ok (.iload_n 3, 1) := by decide +kernel
theorem dX4_setLum_152 : decode cX4_setLum 152 = .ok (.isub, 1) := by decide +kernel
theorem dX4_setLum_153 : decode cX4_setLum 153 = .ok (.invokestatic 91, 3) := by decide +kernel
theorem dX4_setLum_156 : decode cX4_setLum 156 = .ok (.iadd, 1) := by decide +kernel
theorem dX4_setLum_157 : decode cX4_setLum 157 = .ok (.iastore, 1) := by decide +kernel
theorem dX4_setLum_158 : decode cX4_setLum 158 = .ok (.iinc 6 1, 3) := by decide +kernel
theorem dX4_setLum_161 : decode cX4_setLum 161 = .ok (.goto (-48), 3) := by decide +kernel
theorem dX4_setLum_164 : decode cX4_setLum 164 = .ok (.iconst 0, 1) := by decide +kernel
theorem dX4_setLum_165 : decode cX4_setLum 165 = .ok (.istore 6, 2) := by decide +kernel
theorem dX4_setLum_167 : decode cX4_setLum 167 = .ok (.iload 6, 2) := by decide +kernel
theorem dX4_setLum_169 : decode cX4_setLum 169 = .ok (.iconst 3, 1) := by decide +kernel
theorem dX4_setLum_170 : decode cX4_setLum 170 = .ok (.if_icmp .ge 56, 3) := by decide +kernel
theorem dX4_setLum_173 : decode cX4_setLum 173 = .ok (.aload_n 0, 1) := by decide +kernel
theorem dX4_setLum_174 : decode cX4_setLum 174 = .ok (.getfield 63, 3) := by decide +kernel
theorem dX4_setLum_177 : decode cX4_setLum 177 = .ok (.iload 6, 2) := by decide +kernel
theorem dX4_setLum_179 : decode cX4_setLum 179 = .ok (.aload_n 0, 1) := by decide +kernel
theorem dX4_setLum_180 : decode cX4_setLum 180 = .ok (.getfield 63, 3) := by decide +kernel
theorem dX4_setLum_183 : decode cX4_setLum 183 = .ok (.iload 6, 2) := by decide +kernel
theorem dX4_setLum_185 : decode cX4_setLum 185 = .ok (.iaload, 1) := by decide +kernel
theorem dX4_setLum_186 : decode cX4_setLum 186 = .ok (.ifCond .ge 7, 3) := by decide +kernel
theorem dX4_setLum_189 : decode cX4_setLum 189 = .ok (.iconst 0, 1) := by decide +kernel
theorem dX4_setLum_190 : decode cX4_setLum 190 = .ok (.goto 29, 3) := by decide +kernel
theorem dX4_setLum_193 : decode cX4_setLum 193 = .ok (.aload_n 0, 1) := by decide +kernel
theorem dX4_setLum_194 : decode cX4_setLum 194 = .ok (.getfield 63, 3) := by decide +kernel
theorem dX4_setLum_197 : decode cX4_setLum 197 = .ok (.iload 6, 2) := by decide +kernel
theorem dX4_setLum_199 : decode cX4_setLum 199 = .ok (.iaload, 1) := by decide +kernel
theorem dX4_setLum_200 : decode cX4_setLum 200 = .ok (.sipush 255, 3) := by decide +kernel
theorem dX4_setLum_203 : decode cX4_setLum 203 = .ok (.if_icmp .le 9, 3) := by decide +kernel
theorem dX4_setLum_206 : decode cX4_setLum 206 = .ok (.sipush 255, 3) := by decide +kernel
theorem dX4_setLum_209 : decode cX4_setLum 209 = .ok (.goto 10, 3) := by decide +kernel
theorem dX4_setLum_212 : decode cX4_setLum 212 = .ok (.aload_n 0, 1) := by decide +kernel
theorem dX4_setLum_213 : decode cX4_setLum 213 = .ok (.getfield 63, 3) := by decide +kernel
theorem dX4_setLum_216 : decode cX4_setLum 216 = .ok (.iload 6, 2) := by decide +kernel
theorem dX4_setLum_218 : decode cX4_setLum 218 = .ok (.iaload, 1) := by decide +kernel
theorem dX4_setLum_219 : decode cX4_setLum 219 = .ok (.iastore, 1) := by decide +kernel
theorem dX4_setLum_220 : decode cX4_setLum 220 = .ok (.iinc 6 1, 3) := by decide +kernel
theorem dX4_setLum_223 : decode cX4_setLum 223 = .ok (.goto (-56), 3) := by decide +kernel
theorem dX4_setLum_226 : decode cX4_setLum 226 = .ok (.return_, 1) := by decide +kernel
theorem dX4_copy_0 : decode cX4_copy 0 = .ok (.iconst 0, 1) := by decide +kernel
theorem dX4_copy_1 : decode cX4_copy 1 = .ok (.istore_n 2, 1) := by decide +kernel
theorem dX4_copy_2 : decode cX4_copy 2 = .ok (.iload_n 2, 1) := by decide +kernel
theorem dX4_copy_3 : decode cX4_copy 3 = .ok (.iconst 3, 1) := by decide +kernel
theorem dX4_copy_4 : decode cX4_copy 4 = .ok (.if_icmp .ge 18, 3) := by decide +kernel
theorem dX4_copy_7 : decode cX4_copy 7 = .ok (.aload_n 0, 1) := by decide +kernel
theorem dX4_copy_8 : decode cX4_copy 8 = .ok (.getfield 63, 3) := by decide +kernel
theorem dX4_copy_11 : decode cX4_copy 11 = .ok (.iload_n 2, 1) := by decide +kernel
theorem dX4_copy_12 : decode cX4_copy 12 = .ok (.aload_n 1, 1) := by decide +kernel
theorem dX4_copy_13 : decode cX4_copy 13 = .ok (.iload_n 2, 1) := by decide +kernel
theorem dX4_copy_14 : decode cX4_copy 14 = .ok (.iaload, 1) := by decide +kernel
theorem dX4_copy_15 : decode cX4_copy 15 = .ok (.iastore, 1) := by decide +kernel
theorem dX4_copy_16 : decode cX4_copy 16 = .ok (.iinc 2 1, 3) := by decide +kernel
theorem dX4_copy_19 : decode cX4_copy 19 = .ok (.goto (-17), 3) := by decide +kernel
theorem dX4_copy_22 : decode cX4_copy 22 = .ok (.return_, 1) := by decide +kernel
theorem dX4_mix_0 : decode cX4_mix 0 = .ok (.iload_n 1, 1) := by decide +kernel
theorem dX4_mix_1 : decode cX4_mix 1 = .ok (.bipush 12, 2) := by decide +kernel
theorem dX4_mix_3 : decode cX4_mix 3 = .ok (.if_icmp .ge 39, 3) := by decide +kernel
theorem dX4_mix_6 : decode cX4_mix 6 = .ok (.iconst 0, 1) := by decide +kernel
theorem dX4_mix_7 : decode cX4_mix 7 = .ok (.istore_n 2, 1) := by decide +kernel
theorem dX4_mix_8 : decode cX4_mix 8 = .ok (.iload_n 2, 1) := by decide +kernel
theorem dX4_mix_9 : decode cX4_mix 9 = .ok (.iconst 3, 1) := by decide +kernel
theorem dX4_mix_10 : decode cX4_mix 10 = .ok (.if_icmp .ge 31, 3) := by decide +kernel
theorem dX4_mix_13 : decode cX4_mix 13 = .ok (.aload_n 0, 1) := by decide +kernel
theorem dX4_mix_14 : decode cX4_mix 14 = .ok (.getfield 60, 3) := by decide +kernel
theorem dX4_mix_17 : decode cX4_mix 17 = .ok (.iload_n 2, 1) := by decide +kernel
theorem dX4_mix_18 : decode cX4_mix 18 = .ok (.iload_n 1, 1) := by decide +kernel
theorem dX4_mix_19 : decode cX4_mix 19 = .ok (.aload_n 0, 1) := by decide +kernel
theorem dX4_mix_20 : decode cX4_mix 20 = .ok (.getfield 57, 3) := by decide +kernel
theorem dX4_mix_23 : decode cX4_mix 23 = .ok (.iload_n 2, 1) := by decide +kernel
theorem dX4_mix_24 : decode cX4_mix 24 = .ok (.iaload, 1) := by decide +kernel
theorem dX4_mix_25 : decode cX4_mix 25 = .ok (.aload_n 0, 1) := by decide +kernel
theorem dX4_mix_26 : decode cX4_mix 26 = .ok (.getfield 54, 3) := by decide +kernel
theorem dX4_mix_29 : decode cX4_mix 29 = .ok (.iload_n 2, 1) := by decide +kernel
theorem dX4_mix_30 : decode cX4_mix 30 = .ok (.iaload, 1) := by decide +kernel
theorem dX4_mix_31 : decode cX4_mix 31 = .ok (.invokestatic 107, 3) := by decide +kernel
theorem dX4_mix_34 : decode cX4_mix 34 = .ok (.iastore, 1) := by decide +kernel
theorem dX4_mix_35 : decode cX4_mix 35 = .ok (.iinc 2 1, 3) := by decide +kernel
theorem dX4_mix_38 : decode cX4_mix 38 = .ok (.goto (-30), 3) := by decide +kernel
theorem dX4_mix_41 : decode cX4_mix 41 = .ok (.return_, 1) := by decide +kernel
theorem dX4_mix_42 : decode cX4_mix 42 = .ok (.iload_n 1, 1) := by decide +kernel
theorem dX4_mix_43 : decode cX4_mix 43 = .ok (.bipush 12, 2) := by decide +kernel
theorem dX4_mix_45 : decode cX4_mix 45 = .ok (.if_icmp .ne 25, 3) := by decide +kernel
theorem dX4_mix_48 : decode cX4_mix 48 = .ok (.aload_n 0, 1) := by decide +kernel
theorem dX4_mix_49 : decode cX4_mix 49 = .ok (.aload_n 0, 1) := by decide +kernel
theorem dX4_mix_50 : decode cX4_mix 50 = .ok (.getfield 54, 3) := by decide +kernel
theorem dX4_mix_53 : decode cX4_mix 53 = .ok (.invokevirtual 111, 3) := by decide +kernel
theorem dX4_mix_56 : decode cX4_mix 56 = .ok (.aload_n 0, 1) := by decide +kernel
theorem dX4_mix_57 : decode cX4_mix 57 = .ok (.aload_n 0, 1) := by decide +kernel
theorem dX4_mix_58 : decode cX4_mix 58 = .ok (.getfield 57, 3) := by decide +kernel
theorem dX4_mix_61 : decode cX4_mix 61 = .ok (.invokestatic 101, 3) := by decide +kernel
theorem dX4_mix_64 : decode cX4_mix 64 = .ok (.invokevirtual 115, 3) := by decide +kernel
theorem dX4_mix_67 : decode cX4_mix 67 = .ok (.goto 56, 3) := by decide +kernel
theorem dX4_mix_70 : decode cX4_mix 70 = .ok (.iload_n 1, 1) := by decide +kernel
theorem dX4_mix_71 : decode cX4_mix 71 = .ok (.bipush 13, 2) := by decide +kernel
theorem dX4_mix_73 : decode cX4_mix 73 = .ok (.if_icmp .ne 25, 3) := by decide +kernel
theorem dX4_mix_76 : decode cX4_mix 76 = .ok (.aload_n 0, 1) := by decide +kernel
theorem dX4_mix_77 : decode cX4_mix 77 = .ok (.aload_n 0, 1) := by decide +kernel
theorem dX4_mix_78 : decode cX4_mix 78 = .ok (.getfield 57, 3) := by decide +kernel
theorem dX4_mix_81 : decode cX4_mix 81 = .ok (.invokevirtual 111, 3) := by decide +kernel
theorem dX4_mix_84 : decode cX4_mix 84 = .ok (.aload_n 0, 1) := by decide +kernel
theorem dX4_mix_85 : decode cX4_mix 85 = .ok (.aload_n 0, 1) := by decide +kernel
theorem dX4_mix_86 : decode cX4_mix 86 = .ok (.getfield 54, 3) := by decide +kernel
theorem dX4_mix_89 : decode cX4_mix 89 = .ok (.invokestatic 101, 3) := by decide +kernel
theorem dX4_mix_92 : decode cX4_mix 92 = .ok (.invokevirtual 115, 3) := by decide +kernel
theorem dX4_mix_95 : decode cX4_mix 95 = .ok (.goto 28, 3) := by decide +kernel
theorem dX4_mix_98 : decode cX4_mix 98 = .ok (.iload_n 1, 1) := by decide +kernel
theorem dX4_mix_99 : decode cX4_mix 99 = .ok (.bipush 14, 2) := by decide +kernel
theorem dX4_mix_101 : decode cX4_mix 101 = .ok (.if_icmp .ne 14, 3) := by decide +kernel
theorem dX4_mix_104 : decode cX4_mix 104 = .ok (.aload_n 0, 1) := by decide +kernel
theorem dX4_mix_105 : decode cX4_mix 105 = .ok (.aload_n 0, 1) := by decide +kernel
theorem dX4_mix_106 : decode cX4_mix 106 = .ok (.getfield 54, 3) := by decide +kernel
theorem dX4_mix_109 : decode cX4_mix 109 = .ok (.invokevirtual 111, 3) := by decide +kernel
theorem dX4_mix_112 : decode cX4_mix 112 = .ok (.goto 11, 3) := by decide +kernel
theorem dX4_mix_115 : decode cX4_mix 115 = .ok (.aload_n 0, 1) := by decide +kernel
theorem dX4_mix_116 : decode cX4_mix 116 = .ok (.aload_n 0, 1) := by decide +kernel
theorem dX4_mix_117 : decode cX4_mix 117 = .ok (.getfield 57, 3) := by decide +kernel
theorem dX4_mix_120 : decode cX4_mix 120 = .ok (.invokevirtual 111, 3) := by decide +kernel
theorem dX4_mix_123 : decode cX4_mix 123 = .ok (.aload_n 0, 1) := by decide +kernel
theorem dX4_mix_124 : decode cX4_mix 124 = .ok (.iload_n 1, 1) := by decide +kernel
theorem dX4_mix_125 : decode cX4_mix 125 = .ok (.bipush 15, 2) := by decide +kernel
theorem dX4_mix_127 : decode cX4_mix 127 = .ok (.if_icmp .ne 13, 3) := by decide +kernel
theorem dX4_mix_130 : decode cX4_mix 130 = .ok (.aload_n 0, 1) := by decide +kernel
theorem dX4_mix_131 : decode cX4_mix 131 = .ok (.getfield 54, 3) := by decide +kernel
theorem dX4_mix_134 : decode cX4_mix 134 = .ok (.invokestatic 104, 3) := by decide +kernel
theorem dX4_mix_137 : decode cX4_mix 137 = .ok (.goto 10, 3) := by decide +kernel
theorem dX4_mix_140 : decode cX4_mix 140 = .ok (.aload_n 0, 1) := by decide +kernel
theorem dX4_mix_141 : decode cX4_mix 141 = .ok (.getfield 57, 3) := by decide +kernel
theorem dX4_mix_144 : decode cX4_mix 144 = .ok (.invokestatic 104, 3) := by decide +kernel
theorem dX4_mix_147 : decode cX4_mix 147 = .ok (.invokevirtual 119, 3) := by decide +kernel
theorem dX4_mix_150 : decode cX4_mix 150 = .ok (.iconst 0, 1) := by decide +kernel
theorem dX4_mix_151 : decode cX4_mix 151 = .ok (.istore_n 2, 1) := by decide +kernel
theorem dX4_mix_152 : decode cX4_mix 152 = .ok (.iload_n 2, 1) := by decide +kernel
theorem dX4_mix_153 : decode cX4_mix 153 = .ok (.iconst 3, 1) := by decide +kernel
theorem dX4_mix_154 : decode cX4_mix 154 = .ok (.if_icmp .ge 21, 3) := by decide +kernel
theorem dX4_mix_157 : decode cX4_mix 157 = .ok (.aload_n 0, 1) := by decide +kernel
theorem dX4_mix_158 : decode cX4_mix 158 = .ok (.getfield 60, 3) := by decide +kernel
theorem dX4_mix_161 : decode cX4_mix 161 = .ok (.iload_n 2, 1) := by decide +kernel
theorem dX4_mix_162 : decode cX4_mix 162 = .ok (.aload_n 0, 1) := by decide +kernel
theorem dX4_mix_163 : decode cX4_mix 163 = .ok (.getfield 63, 3) := by decide +kernel
theorem dX4_mix_166 : decode cX4_mix 166 = .ok (.iload_n 2, 1) := by decide +kernel
theorem dX4_mix_167 : decode cX4_mix 167 = .ok (.iaload, 1) := by decide +kernel
theorem dX4_mix_168 : decode cX4_mix 168 = .ok (.iastore, 1) := by decide +kernel
theorem dX4_mix_169 : decode cX4_mix 169 = .ok (.iinc 2 1, 3) := by decide +kernel
theorem dX4_mix_172 : decode cX4_mix 172 = .ok (.goto (-20), 3) := by decide +kernel
theorem dX4_mix_175 : decode cX4_mix 175 = .ok (.return_, 1) := by decide +kernel
theorem dX4_here_0 : decode cX4_here 0 = .ok (.aload_n 0, 1) := by decide +kernel
theorem dX4_here_1 : decode cX4_here 1 = .ok (.getfield 20, 3) := by decide +kernel
theorem dX4_here_4 : decode cX4_here 4 = .ok (.iconst 1, 1) := by decide +kernel
theorem dX4_here_5 : decode cX4_here 5 = .ok (.isub, 1) := by decide +kernel
theorem dX4_here_6 : decode cX4_here 6 = .ok (.ireturn, 1) := by decide +kernel
theorem dX4_alphaOf_0 : decode cX4_alphaOf 0 = .ok (.aload_n 0, 1) := by decide +kernel
theorem dX4_alphaOf_1 : decode cX4_alphaOf 1 = .ok (.getfield 30, 3) := by decide +kernel
theorem dX4_alphaOf_4 : decode cX4_alphaOf 4 = .ok (.sipush 144, 3) := by decide +kernel
theorem dX4_alphaOf_7 : decode cX4_alphaOf 7 = .ok (.iload_n 1, 1) := by decide +kernel
theorem dX4_alphaOf_8 : decode cX4_alphaOf 8 = .ok (.imul, 1) := by decide +kernel
theorem dX4_alphaOf_9 : decode cX4_alphaOf 9 = .ok (.iload_n 2, 1) := by decide +kernel
theorem dX4_alphaOf_10 : decode cX4_alphaOf 10 = .ok (.iadd, 1) := by decide +kernel
theorem dX4_alphaOf_11 : decode cX4_alphaOf 11 = .ok (.iaload, 1) := by decide +kernel
theorem dX4_alphaOf_12 : decode cX4_alphaOf 12 = .ok (.istore_n 3, 1) := by decide +kernel
theorem dX4_alphaOf_13 : decode cX4_alphaOf 13 = .ok (.aload_n 0, 1) := by decide +kernel
theorem dX4_alphaOf_14 : decode cX4_alphaOf 14 = .ok (.getfield 36, 3) := by decide +kernel
theorem dX4_alphaOf_17 : decode cX4_alphaOf 17 = .ok (.sipush 144, 3) := by decide +kernel
theorem dX4_alphaOf_20 : decode cX4_alphaOf 20 = .ok (.iload_n 1, 1) := by decide +kernel
theorem dX4_alphaOf_21 : decode cX4_alphaOf 21 = .ok (.imul, 1) := by decide +kernel
theorem dX4_alphaOf_22 : decode cX4_alphaOf 22 = .ok (.iload_n 2, 1) := by decide +kernel
theorem dX4_alphaOf_23 : decode cX4_alphaOf 23 = .ok (.iadd, 1) := by decide +kernel
theorem dX4_alphaOf_24 : decode cX4_alphaOf 24 = .ok (.iaload, 1) := by decide +kernel
theorem dX4_alphaOf_25 : decode cX4_alphaOf 25 = .ok (.istore 4, 2) := by decide +kernel
theorem dX4_alphaOf_27 : decode cX4_alphaOf 27 = .ok (.iload_n 3, 1) := by decide +kernel
theorem dX4_alphaOf_28 : decode cX4_alphaOf 28 = .ok (.iload 4, 2) := by decide +kernel
theorem dX4_alphaOf_30 : decode cX4_alphaOf 30 = .ok (.iadd, 1) := by decide +kernel
theorem dX4_alphaOf_31 : decode cX4_alphaOf 31 = .ok (.iload_n 3, 1) := by decide +kernel
theorem dX4_alphaOf_32 : decode cX4_alphaOf 32 = .ok (.iload 4, 2) := by decide +kernel
theorem dX4_alphaOf_34 : decode cX4_alphaOf 34 = .ok (.invokestatic 75, 3) := by decide +kernel
theorem dX4_alphaOf_37 : decode cX4_alphaOf 37 = .ok (.isub, 1) := by decide +kernel
theorem dX4_alphaOf_38 : decode cX4_alphaOf 38 = .ok (.ireturn, 1) := by decide +kernel
theorem dX4_leaves_0 : decode cX4_leaves 0 = .ok (.aload_n 0, 1) := by decide +kernel
theorem dX4_leaves_1 : decode cX4_leaves 1 = .ok (.getfield 122, 3) := by decide +kernel
theorem dX4_leaves_4 : decode cX4_leaves 4 = .ok (.ifCond .eq 16, 3) := by decide +kernel
theorem dX4_leaves_7 : decode cX4_leaves 7 = .ok (.iload_n 1, 1) := by decide +kernel
theorem dX4_leaves_8 : decode cX4_leaves 8 = .ok (.aload_n 0, 1) := by decide +kernel
theorem dX4_leaves_9 : decode cX4_leaves 9 = .ok (.getfield 42, 3) := by decide +kernel
theorem dX4_leaves_12 : decode cX4_leaves 12 = .ok (.iload_n 2, 1) := by decide +kernel
theorem dX4_leaves_13 : decode cX4_leaves 13 = .ok (.iaload, 1) := by decide +kernel
theorem dX4_leaves_14 : decode cX4_leaves 14 = .ok (.invokestatic 75, 3) := by decide +kernel
theorem dX4_leaves_17 : decode cX4_leaves 17 = .ok (.goto 4, 3) := by decide +kernel
theorem dX4_leaves_20 : decode cX4_leaves 20 = .ok (.iload_n 1, 1) := by decide +kernel
theorem dX4_leaves_21 : decode cX4_leaves 21 = .ok (.ireturn, 1) := by decide +kernel
theorem dX4_put_0 : decode cX4_put 0 = .ok (.iload 4, 2) := by decide +kernel
theorem dX4_put_2 : decode cX4_put 2 = .ok (.ifCond .ne 4, 3) := by decide +kernel
theorem dX4_put_5 : decode cX4_put 5 = .ok (.return_, 1) := by decide +kernel
theorem dX4_put_6 : decode cX4_put 6 = .ok (.sipush 144, 3) := by decide +kernel
theorem dX4_put_9 : decode cX4_put 9 = .ok (.iload_n 1, 1) := by decide +kernel
theorem dX4_put_10 : decode cX4_put 10 = .ok (.imul, 1) := by decide +kernel
theorem dX4_put_11 : decode cX4_put 11 = .ok (.iload_n 2, 1) := by decide +kernel
theorem dX4_put_12 : decode cX4_put 12 = .ok (.iadd, 1) := by decide +kernel
theorem dX4_put_13 : decode cX4_put 13 = .ok (.istore 6, 2) := by decide +kernel
theorem dX4_put_15 : decode cX4_put 15 = .ok (.aload_n 0, 1) := by decide +kernel
theorem dX4_put_16 : decode cX4_put 16 = .ok (.iload_n 1, 1) := by decide +kernel
theorem dX4_put_17 : decode cX4_put 17 = .ok (.iload_n 2, 1) := by decide +kernel
theorem dX4_put_18 : decode cX4_put 18 = .ok (.invokevirtual 126, 3) := by decide +kernel
theorem dX4_put_21 : decode cX4_put 21 = .ok (.istore 7, 2) := by decide +kernel
theorem dX4_put_23 : decode cX4_put 23 = .ok (.aload_n 0, 1) := by decide +kernel
theorem dX4_put_24 : decode cX4_put 24 = .ok (.getfield 23, 3) := by decide +kernel
theorem dX4_put_27 : decode cX4_put 27 = .ok (.iload_n 1, 1) := by decide +kernel
theorem dX4_put_28 : decode cX4_put 28 = .ok (.baload, 1) := by decide +kernel
theorem dX4_put_29 : decode cX4_put 29 = .ok (.ifCond .eq 13, 3) := by decide +kernel
theorem dX4_put_32 : decode cX4_put 32 = .ok (.aload_n 0, 1) := by decide +kernel
theorem dX4_put_33 : decode cX4_put 33 = .ok (.getfield 30, 3) := by decide +kernel
theorem dX4_put_36 : decode cX4_put 36 = .ok (.iload 6, 2) := by decide +kernel
theorem dX4_put_38 : decode cX4_put 38 = .ok (.iaload, 1) := by decide +kernel
theorem dX4_put_39 : decode cX4_put 39 = .ok (.goto 5, 3) := by decide +kernel
theorem dX4_put_42 : decode cX4_put 42 = .ok (.iload 7, 2) := by decide +kernel
theorem dX4_put_44 : decode cX4_put 44 = .ok (.istore 8, 2) := by decide +kernel
theorem dX4_put_46 : decode cX4_put 46 = .ok (.aload_n 0, 1) := by decide +kernel
theorem dX4_put_47 : decode cX4_put 47 = .ok (.getfield 23, 3) := by decide +kernel
theorem dX4_put_50 : decode cX4_put 50 = .ok (.iload_n 1, 1) := by decide +kernel
theorem dX4_put_51 : decode cX4_put 51 = .ok (.baload, 1) := by decide +kernel
theorem dX4_put_52 : decode cX4_put 52 = .ok (.ifCond .eq 7, 3) := by decide +kernel
theorem dX4_put_55 : decode cX4_put 55 = .ok (.iconst 0, 1) := by decide +kernel
theorem dX4_put_56 : decode cX4_put 56 = .ok (.goto 10, 3) := by decide +kernel
theorem dX4_put_59 : decode cX4_put 59 = .ok (.aload_n 0, 1) := by decide +kernel
theorem dX4_put_60 : decode cX4_put 60 = .ok (.getfield 36, 3) := by decide +kernel
theorem dX4_put_63 : decode cX4_put 63 = .ok (.iload 6, 2) := by decide +kernel
theorem dX4_put_65 : decode cX4_put 65 = .ok (.iaload, 1) := by decide +kernel
theorem dX4_put_66 : decode cX4_put 66 = .ok (.istore 9, 2) := by decide +kernel
theorem dX4_put_68 : decode cX4_put 68 = .ok (.iconst 0, 1) := by decide +kernel
theorem dX4_put_69 : decode cX4_put 69 = .ok (.istore 10, 2) := by decide +kernel
theorem dX4_put_71 : decode cX4_put 71 = .ok (.iload 10, 2) := by decide +kernel
theorem dX4_put_73 : decode cX4_put 73 = .ok (.iconst 3, 1) := by decide +kernel
theorem dX4_put_74 : decode cX4_put 74 = .ok (.if_icmp .ge 52, 3) := by decide +kernel
theorem dX4_put_77 : decode cX4_put 77 = .ok (.aload_n 0, 1) := by decide +kernel
theorem dX4_put_78 : decode cX4_put 78 = .ok (.getfield 57, 3) := by decide +kernel
theorem dX4_put_81 : decode cX4_put 81 = .ok (.iload 10, 2) := by decide +kernel
theorem dX4_put_83 : decode cX4_put 83 = .ok (.aload_n 0, 1) := by decide +kernel
theorem dX4_put_84 : decode cX4_put 84 = .ok (.getfield 23, 3) := by decide +kernel
theorem dX4_put_87 : decode cX4_put 87 = .ok (.iload_n 1, 1) := by decide +kernel
theorem dX4_put_88 : decode cX4_put 88 = .ok (.baload, 1) := by decide +kernel
theorem dX4_put_89 : decode cX4_put 89 = .ok (.ifCond .eq 18, 3) := by decide +kernel
theorem dX4_put_92 : decode cX4_put 92 = .ok (.aload_n 0, 1) := by decide +kernel
theorem dX4_put_93 : decode cX4_put 93 = .ok (.getfield 27, 3) := by decide +kernel
theorem dX4_put_96 : decode cX4_put 96 = .ok (.iconst 3, 1) := by decide +kernel
theorem dX4_put_97 : decode cX4_put 97 = .ok (.iload 6, 2) := by decide +kernel
theorem dX4_put_99 : decode cX4_put 99 = .ok (.imul, 1) := by decide +kernel
theorem dX4_put_100 : decode cX4_put 100 = .ok (.iload 10, 2) := by decide +kernel
theorem dX4_put_102 : decode cX4_put 102 = .ok (.iadd, 1) := by decide +kernel
theorem dX4_put_103 : decode cX4_put 103 = .ok (.iaload, 1) := by decide +kernel
theorem dX4_put_104 : decode cX4_put 104 = .ok (.goto 15, 3) := by decide +kernel
theorem dX4_put_107 : decode cX4_put 107 = .ok (.aload_n 0, 1) := by decide +kernel
theorem dX4_put_108 : decode cX4_put 108 = .ok (.getfield 33, 3) := by decide +kernel
theorem dX4_put_111 : decode cX4_put 111 = .ok (.iconst 3, 1) := by decide +kernel
theorem dX4_put_112 : decode cX4_put 112 = .ok (.iload 6, 2) := by decide +kernel
theorem dX4_put_114 : decode cX4_put 114 = .ok (.imul, 1) := by decide +kernel
theorem dX4_put_115 : decode cX4_put 115 = .ok (.iload 10, 2) := by decide +kernel
theorem dX4_put_117 : decode cX4_put 117 = .ok (.iadd, 1) := by decide +kernel
theorem dX4_put_118 : decode cX4_put 118 = .ok (.iaload, 1) := by decide +kernel
theorem dX4_put_119 : decode cX4_put 119 = .ok (.iastore, 1) := by decide +kernel
theorem dX4_put_120 : decode cX4_put 120 = .ok (.iinc 10 1, 3) := by decide +kernel
theorem dX4_put_123 : decode cX4_put 123 = .ok (.goto (-52), 3) := by decide +kernel
theorem dX4_put_126 : decode cX4_put 126 = .ok (.aload_n 0, 1) := by decide +kernel
theorem dX4_put_127 : decode cX4_put 127 = .ok (.iload_n 3, 1) := by decide +kernel
theorem dX4_put_128 : decode cX4_put 128 = .ok (.invokevirtual 129, 3) := by decide +kernel
theorem dX4_put_131 : decode cX4_put 131 = .ok (.aload_n 0, 1) := by decide +kernel
theorem dX4_put_132 : decode cX4_put 132 = .ok (.getfield 36, 3) := by decide +kernel
theorem dX4_put_135 : decode cX4_put 135 = .ok (.iload 6, 2) := by decide +kernel
theorem dX4_put_137 : decode cX4_put 137 = .ok (.sipush 255, 3) := by decide +kernel
theorem dX4_put_140 : decode cX4_put 140 = .ok (.iload 4, 2) := by decide +kernel
theorem dX4_put_142 : decode cX4_put 142 = .ok (.isub, 1) := by decide +kernel
theorem dX4_put_143 : decode cX4_put 143 = .ok (.aload_n 0, 1) := by decide +kernel
theorem dX4_put_144 : decode cX4_put 144 = .ok (.getfield 36, 3) := by decide +kernel
theorem dX4_put_147 : decode cX4_put 147 = .ok (.iload 6, 2) := by decide +kernel
theorem dX4_put_149 : decode cX4_put 149 = .ok (.iaload, 1) := by decide +kernel
theorem dX4_put_150 : decode cX4_put 150 = .ok (.imul, 1) := by decide +kernel
theorem dX4_put_151 : decode cX4_put 151 = .ok (.iload 4, 2) := by decide +kernel
theorem dX4_put_153 : decode cX4_put 153 = .ok (.iload 5, 2) := by decide +kernel
theorem dX4_put_155 : decode cX4_put 155 = .ok (.isub, 1) := by decide +kernel
theorem dX4_put_156 : decode cX4_put 156 = .ok (.iload 9, 2) := by decide +kernel
theorem dX4_put_158 : decode cX4_put 158 = .ok (.imul, 1) := by decide +kernel
theorem dX4_put_159 : decode cX4_put 159 = .ok (.iadd, 1) := by decide +kernel
theorem dX4_put_160 : decode cX4_put 160 = .ok (.sipush 255, 3) := by decide +kernel
theorem dX4_put_163 : decode cX4_put 163 = .ok (.iload 5, 2) := by decide +kernel
theorem dX4_put_165 : decode cX4_put 165 = .ok (.imul, 1) := by decide +kernel
theorem dX4_put_166 : decode cX4_put 166 = .ok (.iadd, 1) := by decide +kernel
theorem dX4_put_167 : decode cX4_put 167 = .ok (.bipush 127, 2) := by decide +kernel
theorem dX4_put_169 : decode cX4_put 169 = .ok (.iadd, 1) := by decide +kernel
theorem dX4_put_170 : decode cX4_put 170 = .ok (.sipush 255, 3) := by decide +kernel
theorem dX4_put_173 : decode cX4_put 173 = .ok (.idiv, 1) := by decide +kernel
theorem dX4_put_174 : decode cX4_put 174 = .ok (.iastore, 1) := by decide +kernel
theorem dX4_put_175 : decode cX4_put 175 = .ok (.aload_n 0, 1) := by decide +kernel
theorem dX4_put_176 : decode cX4_put 176 = .ok (.getfield 39, 3) := by decide +kernel
theorem dX4_put_179 : decode cX4_put 179 = .ok (.iload 6, 2) := by decide +kernel
theorem dX4_put_181 : decode cX4_put 181 = .ok (.aload_n 0, 1) := by decide +kernel
theorem dX4_put_182 : decode cX4_put 182 = .ok (.getfield 39, 3) := by decide +kernel
theorem dX4_put_185 : decode cX4_put 185 = .ok (.iload 6, 2) := by decide +kernel
theorem dX4_put_187 : decode cX4_put 187 = .ok (.iaload, 1) := by decide +kernel
theorem dX4_put_188 : decode cX4_put 188 = .ok (.iload 4, 2) := by decide +kernel
theorem dX4_put_190 : decode cX4_put 190 = .ok (.iadd, 1) := by decide +kernel
theorem dX4_put_191 : decode cX4_put 191 = .ok (.aload_n 0, 1) := by decide +kernel
theorem dX4_put_192 : decode cX4_put 192 = .ok (.getfield 39, 3) := by decide +kernel
theorem dX4_put_195 : decode cX4_put 195 = .ok (.iload 6, 2) := by decide +kernel
theorem dX4_put_197 : decode cX4_put 197 = .ok (.iaload, 1) := by decide +kernel
theorem dX4_put_198 : decode cX4_put 198 = .ok (.iload 4, 2) := by decide +kernel
theorem dX4_put_200 : decode cX4_put 200 = .ok (.invokestatic 75, 3) := by decide +kernel
theorem dX4_put_203 : decode cX4_put 203 = .ok (.isub, 1) := by decide +kernel
theorem dX4_put_204 : decode cX4_put 204 = .ok (.iastore, 1) := by decide +kernel
theorem dX4_put_205 : decode cX4_put 205 = .ok (.aload_n 0, 1) := by decide +kernel
theorem dX4_put_206 : decode cX4_put 206 = .ok (.iload_n 1, 1) := by decide +kernel
theorem dX4_put_207 : decode cX4_put 207 = .ok (.iload_n 2, 1) := by decide +kernel
theorem dX4_put_208 : decode cX4_put 208 = .ok (.invokevirtual 126, 3) := by decide +kernel
theorem dX4_put_211 : decode cX4_put 211 = .ok (.istore 10, 2) := by decide +kernel
theorem dX4_put_213 : decode cX4_put 213 = .ok (.iconst 0, 1) := by decide +kernel
theorem dX4_put_214 : decode cX4_put 214 = .ok (.istore 11, 2) := by decide +kernel
theorem dX4_put_216 : decode cX4_put 216 = .ok (.iload 11, 2) := by decide +kernel
theorem dX4_put_218 : decode cX4_put 218 = .ok (.iconst 3, 1) := by decide +kernel
theorem dX4_put_219 : decode cX4_put 219 = .ok (.if_icmp .ge 180, 3) := by decide +kernel
theorem dX4_put_222 : decode cX4_put 222 = .ok (.iload 10, 2) := by decide +kernel
theorem dX4_put_224 : decode cX4_put 224 = .ok (.ifCond .le 175, 3) := by decide +kernel
theorem dX4_put_227 : decode cX4_put 227 = .ok (.aload_n 0, 1) := by decide +kernel
theorem dX4_put_228 : decode cX4_put 228 = .ok (.getfield 51, 3) := by decide +kernel
theorem dX4_put_231 : decode cX4_put 231 = .ok (.iload 11, 2) := by decide +kernel
theorem dX4_put_233 : decode cX4_put 233 = .ok (.baload, 1) := by decide +kernel
theorem dX4_put_234 : decode cX4_put 234 = .ok (.ifCond .eq 13, 3) := by decide +kernel
theorem dX4_put_237 : decode cX4_put 237 = .ok (.aload_n 0, 1) := by decide +kernel
theorem dX4_put_238 : decode cX4_put 238 = .ok (.getfield 57, 3) := by decide +kernel
theorem dX4_put_241 : decode cX4_put 241 = .ok (.iload 11, 2) := by decide +kernel
theorem dX4_put_243 : decode cX4_put 243 = .ok (.iaload, 1) := by decide +kernel
theorem dX4_put_244 : decode cX4_put 244 = .ok (.goto 10, 3) := by decide +kernel
theorem dX4_put_247 : decode cX4_put 247 = .ok (.aload_n 0, 1) := by decide +kernel
theorem dX4_put_248 : decode cX4_put 248 = .ok (.getfield 54, 3) := by decide +kernel
theorem dX4_put_251 : decode cX4_put 251 = .ok (.iload 11, 2) := by decide +kernel
theorem dX4_put_253 : decode cX4_put 253 = .ok (.iaload, 1) := by decide +kernel
theorem dX4_put_254 : decode cX4_put 254 = .ok (.istore 12, 2) := by decide +kernel
theorem dX4_put_256 : decode cX4_put 256 = .ok (.aload_n 0, 1) := by decide +kernel
theorem dX4_put_257 : decode cX4_put 257 = .ok (.getfield 51, 3) := by decide +kernel
theorem dX4_put_260 : decode cX4_put 260 = .ok (.iload 11, 2) := by decide +kernel
theorem dX4_put_262 : decode cX4_put 262 = .ok (.baload, 1) := by decide +kernel
theorem dX4_put_263 : decode cX4_put 263 = .ok (.ifCond .eq 13, 3) := by decide +kernel
theorem dX4_put_266 : decode cX4_put 266 = .ok (.aload_n 0, 1) := by decide +kernel
theorem dX4_put_267 : decode cX4_put 267 = .ok (.getfield 57, 3) := by decide +kernel
theorem dX4_put_270 : decode cX4_put 270 = .ok (.iload 11, 2) := by decide +kernel
theorem dX4_put_272 : decode cX4_put 272 = .ok (.iaload, 1) := by decide +kernel
theorem dX4_put_273 : decode cX4_put 273 = .ok (.goto 10, 3) := by decide +kernel
theorem dX4_put_276 : decode cX4_put 276 = .ok (.aload_n 0, 1) := by decide +kernel
theorem dX4_put_277 : decode cX4_put 277 = .ok (.getfield 60, 3) := by decide +kernel
theorem dX4_put_280 : decode cX4_put 280 = .ok (.iload 11, 2) := by decide +kernel
theorem dX4_put_282 : decode cX4_put 282 = .ok (.iaload, 1) := by decide +kernel
theorem dX4_put_283 : decode cX4_put 283 = .ok (.istore 13, 2) := by decide +kernel
theorem dX4_put_285 : decode cX4_put 285 = .ok (.sipush 255, 3) := by decide +kernel
theorem dX4_put_288 : decode cX4_put 288 = .ok (.iload 4, 2) := by decide +kernel
theorem dX4_put_290 : decode cX4_put 290 = .ok (.isub, 1) := by decide +kernel
theorem dX4_put_291 : decode cX4_put 291 = .ok (.iload 7, 2) := by decide +kernel
theorem dX4_put_293 : decode cX4_put 293 = .ok (.imul, 1) := by decide +kernel
theorem dX4_put_294 : decode cX4_put 294 = .ok (.aload_n 0, 1) := by decide +kernel
theorem dX4_put_295 : decode cX4_put 295 = .ok (.getfield 33, 3) := by decide +kernel
theorem dX4_put_298 : decode cX4_put 298 = .ok (.iconst 3, 1) := by decide +kernel
theorem dX4_put_299 : decode cX4_put 299 = .ok (.iload 6, 2) := by decide +kernel
theorem dX4_put_301 : decode cX4_put 301 = .ok (.imul, 1) := by decide +kernel
theorem dX4_put_302 : decode cX4_put 302 = .ok (.iload 11, 2) := by decide +kernel
theorem dX4_put_304 : decode cX4_put 304 = .ok (.iadd, 1) := by decide +kernel
theorem dX4_put_305 : decode cX4_put 305 = .ok (.iaload, 1) := by decide +kernel
theorem dX4_put_306 : decode cX4_put 306 = .ok (.imul, 1) := by decide +kernel
theorem dX4_put_307 : decode cX4_put 307 = .ok (.iload 4, 2) := by decide +kernel
theorem dX4_put_309 : decode cX4_put 309 = .ok (.iload 5, 2) := by decide +kernel
theorem dX4_put_311 : decode cX4_put 311 = .ok (.isub, 1) := by decide +kernel
theorem dX4_put_312 : decode cX4_put 312 = .ok (.iload 8, 2) := by decide +kernel
theorem dX4_put_314 : decode cX4_put 314 = .ok (.imul, 1) := by decide +kernel
theorem dX4_put_315 : decode cX4_put 315 = .ok (.aload_n 0, 1) := by decide +kernel
theorem dX4_put_316 : decode cX4_put 316 = .ok (.getfield 57, 3) := by decide +kernel
theorem dX4_put_319 : decode cX4_put 319 = .ok (.iload 11, 2) := by decide +kernel
theorem dX4_put_321 : decode cX4_put 321 = .ok (.iaload, 1) := by decide +kernel
theorem dX4_put_322 : decode cX4_put 322 = .ok (.imul, 1) := by decide +kernel
theorem dX4_put_323 : decode cX4_put 323 = .ok (.iadd, 1) := by decide +kernel
theorem dX4_put_324 : decode cX4_put 324 = .ok (.iload 5, 2) := by decide +kernel
theorem dX4_put_326 : decode cX4_put 326 = .ok (.sipush 255, 3) := by decide +kernel
theorem dX4_put_329 : decode cX4_put 329 = .ok (.iload 8, 2) := by decide +kernel
theorem dX4_put_331 : decode cX4_put 331 = .ok (.isub, 1) := by decide +kernel
theorem dX4_put_332 : decode cX4_put 332 = .ok (.iload 12, 2) := by decide +kernel
theorem dX4_put_334 : decode cX4_put 334 = .ok (.imul, 1) := by decide +kernel
theorem dX4_put_335 : decode cX4_put 335 = .ok (.iload 8, 2) := by decide +kernel
theorem dX4_put_337 : decode cX4_put 337 = .ok (.iload 13, 2) := by decide +kernel
theorem dX4_put_339 : decode cX4_put 339 = .ok (.imul, 1) := by decide +kernel
theorem dX4_put_340 : decode cX4_put 340 = .ok (.iadd, 1) := by decide +kernel
theorem dX4_put_341 : decode cX4_put 341 = .ok (.imul, 1) := by decide +kernel
theorem dX4_put_342 : decode cX4_put 342 = .ok (.iadd, 1) := by decide +kernel
theorem dX4_put_343 : decode cX4_put 343 = .ok (.istore 14, 2) := by decide +kernel
theorem dX4_put_345 : decode cX4_put 345 = .ok (.iload 14, 2) := by decide +kernel
theorem dX4_put_347 : decode cX4_put 347 = .ok (.sipush 255, 3) := by decide +kernel
theorem dX4_put_350 : decode cX4_put 350 = .ok (.iload 10, 2) := by decide +kernel
theorem dX4_put_352 : decode cX4_put 352 = .ok (.imul, 1) := by decide +kernel
theorem dX4_put_353 : decode cX4_put 353 = .ok (.iconst 2, 1) := by decide +kernel
theorem dX4_put_354 : decode cX4_put 354 = .ok (.idiv, 1) := by decide +kernel
theorem dX4_put_355 : decode cX4_put 355 = .ok (.iadd, 1) := by decide +kernel
theorem dX4_put_356 : decode cX4_put 356 = .ok (.sipush 255, 3) := by decide +kernel
theorem dX4_put_359 : decode cX4_put 359 = .ok (.iload 10, 2) := by decide +kernel
theorem dX4_put_361 : decode cX4_put 361 = .ok (.imul, 1) := by decide +kernel
theorem dX4_put_362 : decode cX4_put 362 = .ok (.idiv, 1) := by decide +kernel
theorem dX4_put_363 : decode cX4_put 363 = .ok (.istore 15, 2) := by decide +kernel
theorem dX4_put_365 : decode cX4_put 365 = .ok (.aload_n 0, 1) := by decide +kernel
theorem dX4_put_366 : decode cX4_put 366 = .ok (.getfield 33, 3) := by decide +kernel
theorem dX4_put_369 : decode cX4_put 369 = .ok (.iconst 3, 1) := by decide +kernel
theorem dX4_put_370 : decode cX4_put 370 = .ok (.iload 6, 2) := by decide +kernel
theorem dX4_put_372 : decode cX4_put 372 = .ok (.imul, 1) := by decide +kernel
theorem dX4_put_373 : decode cX4_put 373 = .ok (.iload 11, 2) := by decide +kernel
theorem dX4_put_375 : decode cX4_put 375 = .ok (.iadd, 1) := by decide +kernel
theorem dX4_put_376 : decode cX4_put 376 = .ok (.iload 15, 2) := by decide +kernel
theorem dX4_put_378 : decode cX4_put 378 = .ok (.sipush 255, 3) := by decide +kernel
theorem dX4_put_381 : decode cX4_put 381 = .ok (.if_icmp .le 9, 3) := by decide +kernel
theorem dX4_put_384 : decode cX4_put 384 = .ok (.sipush 255, 3) := by decide +kernel
theorem dX4_put_387 : decode cX4_put 387 = .ok (.goto 5, 3) := by decide +kernel
theorem dX4_put_390 : decode cX4_put 390 = .ok (.iload 15, 2) := by decide +kernel
theorem dX4_put_392 : decode cX4_put 392 = .ok (.iastore, 1) := by decide +kernel
theorem dX4_put_393 : decode cX4_put 393 = .ok (.iinc 11 1, 3) := by decide +kernel
theorem dX4_put_396 : decode cX4_put 396 = .ok (.goto (-180), 3) := by decide +kernel
theorem dX4_put_399 : decode cX4_put 399 = .ok (.return_, 1) := by decide +kernel
theorem dX4_result_0 : decode cX4_result 0 = .ok (.sipush 144, 3) := by decide +kernel
theorem dX4_result_3 : decode cX4_result 3 = .ok (.iload_n 1, 1) := by decide +kernel
theorem dX4_result_4 : decode cX4_result 4 = .ok (.imul, 1) := by decide +kernel
theorem dX4_result_5 : decode cX4_result 5 = .ok (.iload_n 2, 1) := by decide +kernel
theorem dX4_result_6 : decode cX4_result 6 = .ok (.iadd, 1) := by decide +kernel
theorem dX4_result_7 : decode cX4_result 7 = .ok (.istore_n 3, 1) := by decide +kernel
theorem dX4_result_8 : decode cX4_result 8 = .ok (.aload_n 0, 1) := by decide +kernel
theorem dX4_result_9 : decode cX4_result 9 = .ok (.getfield 36, 3) := by decide +kernel
theorem dX4_result_12 : decode cX4_result 12 = .ok (.iload_n 3, 1) := by decide +kernel
theorem dX4_result_13 : decode cX4_result 13 = .ok (.iaload, 1) := by decide +kernel
theorem dX4_result_14 : decode cX4_result 14 = .ok (.istore 4, 2) := by decide +kernel
theorem dX4_result_16 : decode cX4_result 16 = .ok (.aload_n 0, 1) := by decide +kernel
theorem dX4_result_17 : decode cX4_result 17 = .ok (.getfield 30, 3) := by decide +kernel
theorem dX4_result_20 : decode cX4_result 20 = .ok (.iload_n 3, 1) := by decide +kernel
theorem dX4_result_21 : decode cX4_result 21 = .ok (.iaload, 1) := by decide +kernel
theorem dX4_result_22 : decode cX4_result 22 = .ok (.istore 5, 2) := by decide +kernel
theorem dX4_result_24 : decode cX4_result 24 = .ok (.iconst 0, 1) := by decide +kernel
theorem dX4_result_25 : decode cX4_result 25 = .ok (.istore 6, 2) := by decide +kernel
theorem dX4_result_27 : decode cX4_result 27 = .ok (.iload 6, 2) := by decide +kernel
theorem dX4_result_29 : decode cX4_result 29 = .ok (.iconst 3, 1) := by decide +kernel
theorem dX4_result_30 : decode cX4_result 30 = .ok (.if_icmp .ge 102, 3) := by decide +kernel
theorem dX4_result_33 : decode cX4_result 33 = .ok (.aload_n 0, 1) := by decide +kernel
theorem dX4_result_34 : decode cX4_result 34 = .ok (.getfield 33, 3) := by decide +kernel
theorem dX4_result_37 : decode cX4_result 37 = .ok (.iconst 3, 1) := by decide +kernel
theorem dX4_result_38 : decode cX4_result 38 = .ok (.iload_n 3, 1) := by decide +kernel
theorem dX4_result_39 : decode cX4_result 39 = .ok (.imul, 1) := by decide +kernel
theorem dX4_result_40 : decode cX4_result 40 = .ok (.iload 6, 2) := by decide +kernel
theorem dX4_result_42 : decode cX4_result 42 = .ok (.iadd, 1) := by decide +kernel
theorem dX4_result_43 : decode cX4_result 43 = .ok (.iaload, 1) := by decide +kernel
theorem dX4_result_44 : decode cX4_result 44 = .ok (.istore 7, 2) := by decide +kernel
theorem dX4_result_46 : decode cX4_result 46 = .ok (.iload 4, 2) := by decide +kernel
theorem dX4_result_48 : decode cX4_result 48 = .ok (.ifCond .le 43, 3) := by decide +kernel
theorem dX4_result_51 : decode cX4_result 51 = .ok (.iload 7, 2) := by decide +kernel
theorem dX4_result_53 : decode cX4_result 53 = .ok (.iload 7, 2) := by decide +kernel
theorem dX4_result_55 : decode cX4_result 55 = .ok (.aload_n 0, 1) := by decide +kernel
theorem dX4_result_56 : decode cX4_result 56 = .ok (.getfield 27, 3) := by decide +kernel
theorem dX4_result_59 : decode cX4_result 59 = .ok (.iconst 3, 1) := by decide +kernel
theorem dX4_result_60 : decode cX4_result 60 = .ok (.iload_n 3, 1) := by decide +kernel
theorem dX4_result_61 : decode cX4_result 61 = .ok (.imul, 1) := by decide +kernel
theorem dX4_result_62 : decode cX4_result 62 = .ok (.iload 6, 2) := by decide +kernel
theorem dX4_result_64 : decode cX4_result 64 = .ok (.iadd, 1) := by decide +kernel
theorem dX4_result_65 : decode cX4_result 65 = .ok (.iaload, 1) := by decide +kernel
theorem dX4_result_66 : decode cX4_result 66 = .ok (.isub, 1) := by decide +kernel
theorem dX4_result_67 : decode cX4_result 67 = .ok (.iload 5, 2) := by decide +kernel
theorem dX4_result_69 : decode cX4_result 69 = .ok (.sipush 255, 3) := by decide +kernel
theorem dX4_result_72 : decode cX4_result 72 = .ok (.imul, 1) := by decide +kernel
theorem dX4_result_73 : decode cX4_result 73 = .ok (.iload 5, 2) := by decide +kernel
theorem dX4_result_75 : decode cX4_result 75 = .ok (.iload 4, 2) := by decide +kernel
theorem dX4_result_77 : decode cX4_result 77 = .ok (.imul, 1) := by decide +kernel
theorem dX4_result_78 : decode cX4_result 78 = .ok (.isub, 1) := by decide +kernel
theorem dX4_result_79 : decode cX4_result 79 = .ok (.imul, 1) := by decide +kernel
theorem dX4_result_80 : decode cX4_result 80 = .ok (.sipush 255, 3) := by decide +kernel
theorem dX4_result_83 : decode cX4_result 83 = .ok (.iload 4, 2) := by decide +kernel
theorem dX4_result_85 : decode cX4_result 85 = .ok (.imul, 1) := by decide +kernel
theorem dX4_result_86 : decode cX4_result 86 = .ok (.idiv, 1) := by decide +kernel
theorem dX4_result_87 : decode cX4_result 87 = .ok (.iadd, 1) := by decide +kernel
theorem dX4_result_88 : decode cX4_result 88 = .ok (.goto 4, 3) := by decide +kernel
theorem dX4_result_91 : decode cX4_result 91 = .ok (.iconst 0, 1) := by decide +kernel
theorem dX4_result_92 : decode cX4_result 92 = .ok (.istore 8, 2) := by decide +kernel
theorem dX4_result_94 : decode cX4_result 94 = .ok (.aload_n 0, 1) := by decide +kernel
theorem dX4_result_95 : decode cX4_result 95 = .ok (.getfield 54, 3) := by decide +kernel
theorem dX4_result_98 : decode cX4_result 98 = .ok (.iload 6, 2) := by decide +kernel
theorem dX4_result_100 : decode cX4_result 100 = .ok (.iload 8, 2) := by decide +kernel
theorem dX4_result_102 : decode cX4_result 102 = .ok (.ifCond .ge 7, 3) := by decide +kernel
theorem dX4_result_105 : decode cX4_result 105 = .ok (.iconst 0, 1) := by decide +kernel
theorem dX4_result_106 : decode cX4_result 106 = .ok (.goto 19, 3) := by decide +kernel
theorem dX4_result_109 : decode cX4_result 109 = .ok (.iload 8, 2) := by decide +kernel
theorem dX4_result_111 : decode cX4_result 111 = .ok (.sipush 255, 3) := by decide +kernel
theorem dX4_result_114 : decode cX4_result 114 = .ok (.if_icmp .le 9, 3) := by decide +kernel
theorem dX4_result_117 : decode cX4_result 117 = .ok (.sipush 255, 3) := by decide +kernel
theorem dX4_result_120 : decode cX4_result 120 = .ok (.goto 5, 3) := by decide +kernel
theorem dX4_result_123 : decode cX4_result 123 = .ok (.iload 8, 2) := by decide +kernel
theorem dX4_result_125 : decode cX4_result 125 = .ok (.iastore, 1) := by decide +kernel
theorem dX4_result_126 : decode cX4_result 126 = .ok (.iinc 6 1, 3) := by decide +kernel
theorem dX4_result_129 : decode cX4_result 129 = .ok (.goto (-102), 3) := by decide +kernel
theorem dX4_result_132 : decode cX4_result 132 = .ok (.return_, 1) := by decide +kernel
theorem dX4_pointAt_0 : decode cX4_pointAt 0 = .ok (.bipush 12, 2) := by decide +kernel
theorem dX4_pointAt_2 : decode cX4_pointAt 2 = .ok (.iload_n 2, 1) := by decide +kernel
theorem dX4_pointAt_3 : decode cX4_pointAt 3 = .ok (.imul, 1) := by decide +kernel
theorem dX4_pointAt_4 : decode cX4_pointAt 4 = .ok (.iload_n 1, 1) := by decide +kernel
theorem dX4_pointAt_5 : decode cX4_pointAt 5 = .ok (.iadd, 1) := by decide +kernel
theorem dX4_pointAt_6 : decode cX4_pointAt 6 = .ok (.ireturn, 1) := by decide +kernel
theorem dX4_told_0 : decode cX4_told 0 = .ok (.aload_n 0, 1) := by decide +kernel
theorem dX4_told_1 : decode cX4_told 1 = .ok (.iload_n 1, 1) := by decide +kernel
theorem dX4_told_2 : decode cX4_told 2 = .ok (.ifCond .lt 8, 3) := by decide +kernel
theorem dX4_told_5 : decode cX4_told 5 = .ok (.iload_n 1, 1) := by decide +kernel
theorem dX4_told_6 : decode cX4_told 6 = .ok (.iconst 5, 1) := by decide +kernel
theorem dX4_told_7 : decode cX4_told 7 = .ok (.if_icmp .le 7, 3) := by decide +kernel
theorem dX4_told_10 : decode cX4_told 10 = .ok (.iconst 1, 1) := by decide +kernel
theorem dX4_told_11 : decode cX4_told 11 = .ok (.goto 4, 3) := by decide +kernel
theorem dX4_told_14 : decode cX4_told 14 = .ok (.iconst 0, 1) := by decide +kernel
theorem dX4_told_15 : decode cX4_told 15 = .ok (.putfield 72, 3) := by decide +kernel
theorem dX4_told_18 : decode cX4_told 18 = .ok (.aload_n 0, 1) := by decide +kernel
theorem dX4_told_19 : decode cX4_told 19 = .ok (.getfield 72, 3) := by decide +kernel
theorem dX4_told_22 : decode cX4_told 22 = .ok (.ifCond .le 5, 3) := by decide +kernel
theorem dX4_told_25 : decode cX4_told 25 = .ok (.iconst 0, 1) := by decide +kernel
theorem dX4_told_26 : decode cX4_told 26 = .ok (.ireturn, 1) := by decide +kernel
theorem dX4_told_27 : decode cX4_told 27 = .ok (.iload_n 1, 1) := by decide +kernel
theorem dX4_told_28 : decode cX4_told 28 = .ok (.iconst 3, 1) := by decide +kernel
theorem dX4_told_29 : decode cX4_told 29 = .ok (.if_icmp .ge 31, 3) := by decide +kernel
theorem dX4_told_32 : decode cX4_told 32 = .ok (.iload_n 1, 1) := by decide +kernel
theorem dX4_told_33 : decode cX4_told 33 = .ok (.ifCond .ne 10, 3) := by decide +kernel
theorem dX4_told_36 : decode cX4_told 36 = .ok (.aload_n 0, 1) := by decide +kernel
theorem dX4_told_37 : decode cX4_told 37 = .ok (.getfield 66, 3) := by decide +kernel
theorem dX4_told_40 : decode cX4_told 40 = .ok (.goto 19, 3) := by decide +kernel
theorem dX4_told_43 : decode cX4_told 43 = .ok (.iload_n 1, 1) := by decide +kernel
theorem dX4_told_44 : decode cX4_told 44 = .ok (.iconst 1, 1) := by decide +kernel
theorem dX4_told_45 : decode cX4_told 45 = .ok (.if_icmp .ne 10, 3) := by decide +kernel
theorem dX4_told_48 : decode cX4_told 48 = .ok (.aload_n 0, 1) := by decide +kernel
theorem dX4_told_49 : decode cX4_told 49 = .ok (.getfield 69, 3) := by decide +kernel
theorem dX4_told_52 : decode cX4_told 52 = .ok (.goto 7, 3) := by decide +kernel
theorem dX4_told_55 : decode cX4_told 55 = .ok (.aload_n 0, 1) := by decide +kernel
theorem dX4_told_56 : decode cX4_told 56 = .ok (.getfield 13, 3) := by decide +kernel
theorem dX4_told_59 : decode cX4_told 59 = .ok (.ireturn, 1) := by decide +kernel
theorem dX4_told_60 : decode cX4_told 60 = .ok (.iload_n 1, 1) := by decide +kernel
theorem dX4_told_61 : decode cX4_told 61 = .ok (.iconst 3, 1) := by decide +kernel
theorem dX4_told_62 : decode cX4_told 62 = .ok (.if_icmp .ne 10, 3) := by decide +kernel
theorem dX4_told_65 : decode cX4_told 65 = .ok (.aload_n 0, 1) := by decide +kernel
theorem dX4_told_66 : decode cX4_told 66 = .ok (.getfield 7, 3) := by decide +kernel
theorem dX4_told_69 : decode cX4_told 69 = .ok (.goto 27, 3) := by decide +kernel
theorem dX4_told_72 : decode cX4_told 72 = .ok (.iload_n 1, 1) := by decide +kernel
theorem dX4_told_73 : decode cX4_told 73 = .ok (.iconst 4, 1) := by decide +kernel
theorem dX4_told_74 : decode cX4_told 74 = .ok (.if_icmp .ne 18, 3) := by decide +kernel
theorem dX4_told_77 : decode cX4_told 77 = .ok (.aload_n 0, 1) := by decide +kernel
theorem dX4_told_78 : decode cX4_told 78 = .ok (.getfield 122, 3) := by decide +kernel
theorem dX4_told_81 : decode cX4_told 81 = .ok (.ifCond .eq 7, 3) := by decide +kernel
theorem dX4_told_84 : decode cX4_told 84 = .ok (.iconst 1, 1) := by decide +kernel
theorem dX4_told_85 : decode cX4_told 85 = .ok (.goto 11, 3) := by decide +kernel
theorem dX4_told_88 : decode cX4_told 88 = .ok (.iconst 0, 1) := by decide +kernel
theorem dX4_told_89 : decode cX4_told 89 = .ok (.goto 7, 3) := by decide +kernel
theorem dX4_told_92 : decode cX4_told 92 = .ok (.aload_n 0, 1) := by decide +kernel
theorem dX4_told_93 : decode cX4_told 93 = .ok (.getfield 132, 3) := by decide +kernel
theorem dX4_told_96 : decode cX4_told 96 = .ok (.ireturn, 1) := by decide +kernel
theorem dX4_bound_0 : decode cX4_bound 0 = .ok (.aload_n 0, 1) := by decide +kernel
theorem dX4_bound_1 : decode cX4_bound 1 = .ok (.iload_n 1, 1) := by decide +kernel
theorem dX4_bound_2 : decode cX4_bound 2 = .ok (.iconst 1, 1) := by decide +kernel
theorem dX4_bound_3 : decode cX4_bound 3 = .ok (.if_icmp .lt 9, 3) := by decide +kernel
theorem dX4_bound_6 : decode cX4_bound 6 = .ok (.iload_n 1, 1) := by decide +kernel
theorem dX4_bound_7 : decode cX4_bound 7 = .ok (.bipush 6, 2) := by decide +kernel
theorem dX4_bound_9 : decode cX4_bound 9 = .ok (.if_icmp .le 7, 3) := by decide +kernel
theorem dX4_bound_12 : decode cX4_bound 12 = .ok (.iconst 1, 1) := by decide +kernel
theorem dX4_bound_13 : decode cX4_bound 13 = .ok (.goto 4, 3) := by decide +kernel
theorem dX4_bound_16 : decode cX4_bound 16 = .ok (.iconst 0, 1) := by decide +kernel
theorem dX4_bound_17 : decode cX4_bound 17 = .ok (.putfield 72, 3) := by decide +kernel
theorem dX4_bound_20 : decode cX4_bound 20 = .ok (.aload_n 0, 1) := by decide +kernel
theorem dX4_bound_21 : decode cX4_bound 21 = .ok (.aload_n 0, 1) := by decide +kernel
theorem dX4_bound_22 : decode cX4_bound 22 = .ok (.getfield 72, 3) := by decide +kernel
theorem dX4_bound_25 : decode cX4_bound 25 = .ok (.ifCond .le 10, 3) := by decide +kernel
theorem dX4_bound_28 : decode cX4_bound 28 = .ok (.aload_n 0, 1) := by decide +kernel
theorem dX4_bound_29 : decode cX4_bound 29 = .ok (.getfield 7, 3) := by decide +kernel
theorem dX4_bound_32 : decode cX4_bound 32 = .ok (.goto 4, 3) := by decide +kernel
theorem dX4_bound_35 : decode cX4_bound 35 = .ok (.iload_n 1, 1) := by decide +kernel
theorem dX4_bound_36 : decode cX4_bound 36 = .ok (.putfield 7, 3) := by decide +kernel
theorem dX4_bound_39 : decode cX4_bound 39 = .ok (.return_, 1) := by decide +kernel
theorem dX4_group_0 : decode cX4_group 0 = .ok (.aload_n 0, 1) := by decide +kernel
theorem dX4_group_1 : decode cX4_group 1 = .ok (.aload_n 0, 1) := by decide +kernel
theorem dX4_group_2 : decode cX4_group 2 = .ok (.getfield 13, 3) := by decide +kernel
theorem dX4_group_5 : decode cX4_group 5 = .ok (.bipush 40, 2) := by decide +kernel
theorem dX4_group_7 : decode cX4_group 7 = .ok (.if_icmp .ne 7, 3) := by decide +kernel
theorem dX4_group_10 : decode cX4_group 10 = .ok (.iconst 1, 1) := by decide +kernel
theorem dX4_group_11 : decode cX4_group 11 = .ok (.goto 4, 3) := by decide +kernel
theorem dX4_group_14 : decode cX4_group 14 = .ok (.iconst 0, 1) := by decide +kernel
theorem dX4_group_15 : decode cX4_group 15 = .ok (.putfield 72, 3) := by decide +kernel
theorem dX4_group_18 : decode cX4_group 18 = .ok (.aload_n 0, 1) := by decide +kernel
theorem dX4_group_19 : decode cX4_group 19 = .ok (.getfield 72, 3) := by decide +kernel
theorem dX4_group_22 : decode cX4_group 22 = .ok (.ifCond .le 5, 3) := by decide +kernel
theorem dX4_group_25 : decode cX4_group 25 = .ok (.iconst 0, 1) := by decide +kernel
theorem dX4_group_26 : decode cX4_group 26 = .ok (.ireturn, 1) := by decide +kernel
theorem dX4_group_27 : decode cX4_group 27 = .ok (.aload_n 0, 1) := by decide +kernel
theorem dX4_group_28 : decode cX4_group 28 = .ok (.getfield 16, 3) := by decide +kernel
theorem dX4_group_31 : decode cX4_group 31 = .ok (.aload_n 0, 1) := by decide +kernel
theorem dX4_group_32 : decode cX4_group 32 = .ok (.getfield 13, 3) := by decide +kernel
theorem dX4_group_35 : decode cX4_group 35 = .ok (.iaload, 1) := by decide +kernel
theorem dX4_group_36 : decode cX4_group 36 = .ok (.iconst (-1), 1) := by decide +kernel
theorem dX4_group_37 : decode cX4_group 37 = .ok (.if_icmp .ne 7, 3) := by decide +kernel
theorem dX4_group_40 : decode cX4_group 40 = .ok (.iconst 1, 1) := by decide +kernel
theorem dX4_group_41 : decode cX4_group 41 = .ok (.goto 4, 3) := by decide +kernel
theorem dX4_group_44 : decode cX4_group 44 = .ok (.iconst 0, 1) := by decide +kernel
theorem dX4_group_45 : decode cX4_group 45 = .ok (.istore_n 3, 1) := by decide +kernel
theorem dX4_group_46 : decode cX4_group 46 = .ok (.aload_n 0, 1) := by decide +kernel
theorem dX4_group_47 : decode cX4_group 47 = .ok (.dup, 1) := by decide +kernel
theorem dX4_group_48 : decode cX4_group 48 = .ok (.getfield 13, 3) := by decide +kernel
theorem dX4_group_51 : decode cX4_group 51 = .ok (.iconst 1, 1) := by decide +kernel
theorem dX4_group_52 : decode cX4_group 52 = .ok (.iadd, 1) := by decide +kernel
theorem dX4_group_53 : decode cX4_group 53 = .ok (.putfield 13, 3) := by decide +kernel
theorem dX4_group_56 : decode cX4_group 56 = .ok (.iload_n 3, 1) := by decide +kernel
theorem dX4_group_57 : decode cX4_group 57 = .ok (.ifCond .ne 14, 3) := by decide +kernel
theorem dX4_group_60 : decode cX4_group 60 = .ok (.aload_n 0, 1) := by decide +kernel
theorem dX4_group_61 : decode cX4_group 61 = .ok (.getfield 13, 3) := by decide +kernel
theorem dX4_group_64 : decode cX4_group 64 = .ok (.aload_n 0, 1) := by decide +kernel
theorem dX4_group_65 : decode cX4_group 65 = .ok (.getfield 7, 3) := by decide +kernel
theorem dX4_group_68 : decode cX4_group 68 = .ok (.if_icmp .le 18, 3) := by decide +kernel
theorem dX4_group_71 : decode cX4_group 71 = .ok (.aload_n 0, 1) := by decide +kernel
theorem dX4_group_72 : decode cX4_group 72 = .ok (.getfield 16, 3) := by decide +kernel
theorem dX4_group_75 : decode cX4_group 75 = .ok (.aload_n 0, 1) := by decide +kernel
theorem dX4_group_76 : decode cX4_group 76 = .ok (.getfield 13, 3) := by decide +kernel
theorem dX4_group_79 : decode cX4_group 79 = .ok (.iconst (-1), 1) := by decide +kernel
theorem dX4_group_80 : decode cX4_group 80 = .ok (.iastore, 1) := by decide +kernel
theorem dX4_group_81 : decode cX4_group 81 = .ok (.aload_n 0, 1) := by decide +kernel
theorem dX4_group_82 : decode cX4_group 82 = .ok (.getfield 13, 3) := by decide +kernel
theorem dX4_group_85 : decode cX4_group 85 = .ok (.ireturn, 1) := by decide +kernel
theorem dX4_group_86 : decode cX4_group 86 = .ok (.aload_n 0, 1) := by decide +kernel
theorem dX4_group_87 : decode cX4_group 87 = .ok (.getfield 20, 3) := by decide +kernel
theorem dX4_group_90 : decode cX4_group 90 = .ok (.istore 4, 2) := by decide +kernel
theorem dX4_group_92 : decode cX4_group 92 = .ok (.aload_n 0, 1) := by decide +kernel
theorem dX4_group_93 : decode cX4_group 93 = .ok (.dup, 1) := by decide +kernel
theorem dX4_group_94 : decode cX4_group 94 = .ok (.getfield 20, 3) := by decide +kernel
theorem dX4_group_97 : decode cX4_group 97 = .ok (.iconst 1, 1) := by decide +kernel
theorem dX4_group_98 : decode cX4_group 98 = .ok (.iadd, 1) := by decide +kernel
theorem dX4_group_99 : decode cX4_group 99 = .ok (.putfield 20, 3) := by decide +kernel
theorem dX4_group_102 : decode cX4_group 102 = .ok (.aload_n 0, 1) := by decide +kernel
theorem dX4_group_103 : decode cX4_group 103 = .ok (.getfield 16, 3) := by decide +kernel
theorem dX4_group_106 : decode cX4_group 106 = .ok (.aload_n 0, 1) := by decide +kernel
theorem dX4_group_107 : decode cX4_group 107 = .ok (.getfield 13, 3) := by decide +kernel
theorem dX4_group_110 : decode cX4_group 110 = .ok (.iload 4, 2) := by decide +kernel
theorem dX4_group_112 : decode cX4_group 112 = .ok (.iastore, 1) := by decide +kernel
theorem dX4_group_113 : decode cX4_group 113 = .ok (.aload_n 0, 1) := by decide +kernel
theorem dX4_group_114 : decode cX4_group 114 = .ok (.getfield 23, 3) := by decide +kernel
theorem dX4_group_117 : decode cX4_group 117 = .ok (.iload 4, 2) := by decide +kernel
theorem dX4_group_119 : decode cX4_group 119 = .ok (.iload_n 2, 1) := by decide +kernel
theorem dX4_group_120 : decode cX4_group 120 = .ok (.bastore, 1) := by decide +kernel
theorem dX4_group_121 : decode cX4_group 121 = .ok (.iconst 0, 1) := by decide +kernel
theorem dX4_group_122 : decode cX4_group 122 = .ok (.istore 5, 2) := by decide +kernel
theorem dX4_group_124 : decode cX4_group 124 = .ok (.iload 5, 2) := by decide +kernel
theorem dX4_group_126 : decode cX4_group 126 = .ok (.sipush 144, 3) := by decide +kernel
theorem dX4_group_129 : decode cX4_group 129 = .ok (.if_icmp .ge 130, 3) := by decide +kernel
theorem dX4_group_132 : decode cX4_group 132 = .ok (.sipush 144, 3) := by decide +kernel
theorem dX4_group_135 : decode cX4_group 135 = .ok (.iload 4, 2) := by decide +kernel
theorem dX4_group_137 : decode cX4_group 137 = .ok (.imul, 1) := by decide +kernel
theorem dX4_group_138 : decode cX4_group 138 = .ok (.iload 5, 2) := by decide +kernel
theorem dX4_group_140 : decode cX4_group 140 = .ok (.iadd, 1) := by decide +kernel
theorem dX4_group_141 : decode cX4_group 141 = .ok (.istore 6, 2) := by decide +kernel
theorem dX4_group_143 : decode cX4_group 143 = .ok (.aload_n 0, 1) := by decide +kernel
theorem dX4_group_144 : decode cX4_group 144 = .ok (.getfield 30, 3) := by decide +kernel
theorem dX4_group_147 : decode cX4_group 147 = .ok (.iload 6, 2) := by decide +kernel
theorem dX4_group_149 : decode cX4_group 149 = .ok (.iload_n 1, 1) := by decide +kernel
theorem dX4_group_150 : decode cX4_group 150 = .ok (.ifCond .eq 7, 3) := by decide +kernel
theorem dX4_group_153 : decode cX4_group 153 = .ok (.iconst 0, 1) := by decide +kernel
theorem dX4_group_154 : decode cX4_group 154 = .ok (.goto 13, 3) := by decide +kernel
theorem dX4_group_157 : decode cX4_group 157 = .ok (.aload_n 0, 1) := by decide +kernel
theorem dX4_group_158 : decode cX4_group 158 = .ok (.iload 4, 2) := by decide +kernel
theorem dX4_group_160 : decode cX4_group 160 = .ok (.iconst 1, 1) := by decide +kernel
theorem dX4_group_161 : decode cX4_group 161 = .ok (.isub, 1) := by decide +kernel
theorem dX4_group_162 : decode cX4_group 162 = .ok (.iload 5, 2) := by decide +kernel
theorem dX4_group_164 : decode cX4_group 164 = .ok (.invokevirtual 126, 3) := by decide +kernel
theorem dX4_group_167 : decode cX4_group 167 = .ok (.iastore, 1) := by decide +kernel
theorem dX4_group_168 : decode cX4_group 168 = .ok (.aload_n 0, 1) := by decide +kernel
theorem dX4_group_169 : decode cX4_group 169 = .ok (.getfield 36, 3) := by decide +kernel
theorem dX4_group_172 : decode cX4_group 172 = .ok (.iload 6, 2) := by decide +kernel
theorem dX4_group_174 : decode cX4_group 174 = .ok (.iconst 0, 1) := by decide +kernel
theorem dX4_group_175 : decode cX4_group 175 = .ok (.iastore, 1) := by decide +kernel
theorem dX4_group_176 : decode cX4_group 176 = .ok (.aload_n 0, 1) := by decide +kernel
theorem dX4_group_177 : decode cX4_group 177 = .ok (.getfield 39, 3) := by decide +kernel
theorem dX4_group_180 : decode cX4_group 180 = .ok (.iload 6, 2) := by decide +kernel
theorem dX4_group_182 : decode cX4_group 182 = .ok (.iconst 0, 1) := by decide +kernel
theorem dX4_group_183 : decode cX4_group 183 = .ok (.iastore, 1) := by decide +kernel
theorem dX4_group_184 : decode cX4_group 184 = .ok (.iconst 0, 1) := by decide +kernel
theorem dX4_group_185 : decode cX4_group 185 = .ok (.istore 7, 2) := by decide +kernel
theorem dX4_group_187 : decode cX4_group 187 = .ok (.iload 7, 2) := by decide +kernel
theorem dX4_group_189 : decode cX4_group 189 = .ok (.iconst 3, 1) := by decide +kernel
theorem dX4_group_190 : decode cX4_group 190 = .ok (.if_icmp .ge 63, 3) := by decide +kernel
theorem dX4_group_193 : decode cX4_group 193 = .ok (.iload_n 1, 1) := by decide +kernel
theorem dX4_group_194 : decode cX4_group 194 = .ok (.ifCond .eq 7, 3) := by decide +kernel
theorem dX4_group_197 : decode cX4_group 197 = .ok (.iconst 0, 1) := by decide +kernel
theorem dX4_group_198 : decode cX4_group 198 = .ok (.goto 19, 3) := by decide +kernel
theorem dX4_group_201 : decode cX4_group 201 = .ok (.aload_n 0, 1) := by decide +kernel
theorem dX4_group_202 : decode cX4_group 202 = .ok (.getfield 33, 3) := by decide +kernel
theorem dX4_group_205 : decode cX4_group 205 = .ok (.iconst 3, 1) := by decide +kernel
theorem dX4_group_206 : decode cX4_group 206 = .ok (.iload 6, 2) := by decide +kernel
theorem dX4_group_208 : decode cX4_group 208 = .ok (.sipush 144, 3) := by decide +kernel
theorem dX4_group_211 : decode cX4_group 211 = .ok (.isub, 1) := by decide +kernel
theorem dX4_group_212 : decode cX4_group 212 = .ok (.imul, 1) := by decide +kernel
theorem dX4_group_213 : decode cX4_group 213 = .ok (.iload 7, 2) := by decide +kernel
theorem dX4_group_215 : decode cX4_group 215 = .ok (.iadd, 1) := by decide +kernel
theorem dX4_group_216 : decode cX4_group 216 = .ok (.iaload, 1) := by decide +kernel
theorem dX4_group_217 : decode cX4_group 217 = .ok (.istore 8, 2) := by decide +kernel
theorem dX4_group_219 : decode cX4_group 219 = .ok (.aload_n 0, 1) := by decide +kernel
theorem dX4_group_220 : decode cX4_group 220 = .ok (.getfield 27, 3) := by decide +kernel
theorem dX4_group_223 : decode cX4_group 223 = .ok (.iconst 3, 1) := by decide +kernel
theorem dX4_group_224 : decode cX4_group 224 = .ok (.iload 6, 2) := by decide +kernel
theorem dX4_group_226 : decode cX4_group 226 = .ok (.imul, 1) := by decide +kernel
theorem dX4_group_227 : decode cX4_group 227 = .ok (.iload 7, 2) := by decide +kernel
theorem dX4_group_229 : decode cX4_group 229 = .ok (.iadd, 1) := by decide +kernel
theorem dX4_group_230 : decode cX4_group 230 = .ok (.iload 8, 2) := by decide +kernel
theorem dX4_group_232 : decode cX4_group 232 = .ok (.iastore, 1) := by decide +kernel
theorem dX4_group_233 : decode cX4_group 233 = .ok (.aload_n 0, 1) := by decide +kernel
theorem dX4_group_234 : decode cX4_group 234 = .ok (.getfield 33, 3) := by decide +kernel
theorem dX4_group_237 : decode cX4_group 237 = .ok (.iconst 3, 1) := by decide +kernel
theorem dX4_group_238 : decode cX4_group 238 = .ok (.iload 6, 2) := by decide +kernel
theorem dX4_group_240 : decode cX4_group 240 = .ok (.imul, 1) := by decide +kernel
theorem dX4_group_241 : decode cX4_group 241 = .ok (.iload 7, 2) := by decide +kernel
theorem dX4_group_243 : decode cX4_group 243 = .ok (.iadd, 1) := by decide +kernel
theorem dX4_group_244 : decode cX4_group 244 = .ok (.iload 8, 2) := by decide +kernel
theorem dX4_group_246 : decode cX4_group 246 = .ok (.iastore, 1) := by decide +kernel
theorem dX4_group_247 : decode cX4_group 247 = .ok (.iinc 7 1, 3) := by decide +kernel
theorem dX4_group_250 : decode cX4_group 250 = .ok (.goto (-63), 3) := by decide +kernel
theorem dX4_group_253 : decode cX4_group 253 = .ok (.iinc 5 1, 3) := by decide +kernel
theorem dX4_group_256 : decode cX4_group 256 = .ok (.goto (-132), 3) := by decide +kernel
theorem dX4_group_259 : decode cX4_group 259 = .ok (.aload_n 0, 1) := by decide +kernel
theorem dX4_group_260 : decode cX4_group 260 = .ok (.getfield 13, 3) := by decide +kernel
theorem dX4_group_263 : decode cX4_group 263 = .ok (.ireturn, 1) := by decide +kernel
theorem dX4_leave_0 : decode cX4_leave 0 = .ok (.aload_n 0, 1) := by decide +kernel
theorem dX4_leave_1 : decode cX4_leave 1 = .ok (.getfield 16, 3) := by decide +kernel
theorem dX4_leave_4 : decode cX4_leave 4 = .ok (.aload_n 0, 1) := by decide +kernel
theorem dX4_leave_5 : decode cX4_leave 5 = .ok (.getfield 13, 3) := by decide +kernel
theorem dX4_leave_8 : decode cX4_leave 8 = .ok (.iaload, 1) := by decide +kernel
theorem dX4_leave_9 : decode cX4_leave 9 = .ok (.istore_n 1, 1) := by decide +kernel
theorem dX4_leave_10 : decode cX4_leave 10 = .ok (.aload_n 0, 1) := by decide +kernel
theorem dX4_leave_11 : decode cX4_leave 11 = .ok (.dup, 1) := by decide +kernel
theorem dX4_leave_12 : decode cX4_leave 12 = .ok (.getfield 13, 3) := by decide +kernel
theorem dX4_leave_15 : decode cX4_leave 15 = .ok (.iconst 1, 1) := by decide +kernel
theorem dX4_leave_16 : decode cX4_leave 16 = .ok (.isub, 1) := by decide +kernel
theorem dX4_leave_17 : decode cX4_leave 17 = .ok (.putfield 13, 3) := by decide +kernel
theorem dX4_leave_20 : decode cX4_leave 20 = .ok (.aload_n 0, 1) := by decide +kernel
theorem dX4_leave_21 : decode cX4_leave 21 = .ok (.iload_n 1, 1) := by decide +kernel
theorem dX4_leave_22 : decode cX4_leave 22 = .ok (.iconst (-1), 1) := by decide +kernel
theorem dX4_leave_23 : decode cX4_leave 23 = .ok (.if_icmp .ne 10, 3) := by decide +kernel
theorem dX4_leave_26 : decode cX4_leave 26 = .ok (.aload_n 0, 1) := by decide +kernel
theorem dX4_leave_27 : decode cX4_leave 27 = .ok (.getfield 20, 3) := by decide +kernel
theorem dX4_leave_30 : decode cX4_leave 30 = .ok (.goto 9, 3) := by decide +kernel
theorem dX4_leave_33 : decode cX4_leave 33 = .ok (.aload_n 0, 1) := by decide +kernel
theorem dX4_leave_34 : decode cX4_leave 34 = .ok (.getfield 20, 3) := by decide +kernel
theorem dX4_leave_37 : decode cX4_leave 37 = .ok (.iconst 1, 1) := by decide +kernel
theorem dX4_leave_38 : decode cX4_leave 38 = .ok (.isub, 1) := by decide +kernel
theorem dX4_leave_39 : decode cX4_leave 39 = .ok (.putfield 20, 3) := by decide +kernel
theorem dX4_leave_42 : decode cX4_leave 42 = .ok (.iload_n 1, 1) := by decide +kernel
theorem dX4_leave_43 : decode cX4_leave 43 = .ok (.ireturn, 1) := by decide +kernel
theorem dX4_end_0 : decode cX4_end 0 = .ok (.aload_n 0, 1) := by decide +kernel
theorem dX4_end_1 : decode cX4_end 1 = .ok (.aload_n 0, 1) := by decide +kernel
theorem dX4_end_2 : decode cX4_end 2 = .ok (.getfield 13, 3) := by decide +kernel
theorem dX4_end_5 : decode cX4_end 5 = .ok (.iconst 1, 1) := by decide +kernel
theorem dX4_end_6 : decode cX4_end 6 = .ok (.if_icmp .ne 7, 3) := by decide +kernel
theorem dX4_end_9 : decode cX4_end 9 = .ok (.iconst 1, 1) := by decide +kernel
theorem dX4_end_10 : decode cX4_end 10 = .ok (.goto 25, 3) := by decide +kernel
theorem dX4_end_13 : decode cX4_end 13 = .ok (.iload_n 1, 1) := by decide +kernel
theorem dX4_end_14 : decode cX4_end 14 = .ok (.ifCond .lt 16, 3) := by decide +kernel
theorem dX4_end_17 : decode cX4_end 17 = .ok (.iload_n 1, 1) := by decide +kernel
theorem dX4_end_18 : decode cX4_end 18 = .ok (.bipush 15, 2) := by decide +kernel
theorem dX4_end_20 : decode cX4_end 20 = .ok (.if_icmp .gt 10, 3) := by decide +kernel
theorem dX4_end_23 : decode cX4_end 23 = .ok (.iload_n 2, 1) := by decide +kernel
theorem dX4_end_24 : decode cX4_end 24 = .ok (.invokestatic 135, 3) := by decide +kernel
theorem dX4_end_27 : decode cX4_end 27 = .ok (.ifCond .ne 7, 3) := by decide +kernel
theorem dX4_end_30 : decode cX4_end 30 = .ok (.iconst 2, 1) := by decide +kernel
theorem dX4_end_31 : decode cX4_end 31 = .ok (.goto 4, 3) := by decide +kernel
theorem dX4_end_34 : decode cX4_end 34 = .ok (.iconst 0, 1) := by decide +kernel
theorem dX4_end_35 : decode cX4_end 35 = .ok (.putfield 72, 3) := by decide +kernel
theorem dX4_end_38 : decode cX4_end 38 = .ok (.aload_n 0, 1) := by decide +kernel
theorem dX4_end_39 : decode cX4_end 39 = .ok (.getfield 72, 3) := by decide +kernel
theorem dX4_end_42 : decode cX4_end 42 = .ok (.ifCond .le 5, 3) := by decide +kernel
theorem dX4_end_45 : decode cX4_end 45 = .ok (.iconst 0, 1) := by decide +kernel
theorem dX4_end_46 : decode cX4_end 46 = .ok (.ireturn, 1) := by decide +kernel
theorem dX4_end_47 : decode cX4_end 47 = .ok (.aload_n 0, 1) := by decide +kernel
theorem dX4_end_48 : decode cX4_end 48 = .ok (.invokevirtual 139, 3) := by decide +kernel
theorem dX4_end_51 : decode cX4_end 51 = .ok (.istore_n 3, 1) := by decide +kernel
theorem dX4_end_52 : decode cX4_end 52 = .ok (.aload_n 0, 1) := by decide +kernel
theorem dX4_end_53 : decode cX4_end 53 = .ok (.dup, 1) := by decide +kernel
theorem dX4_end_54 : decode cX4_end 54 = .ok (.getfield 132, 3) := by decide +kernel
theorem dX4_end_57 : decode cX4_end 57 = .ok (.iload_n 3, 1) := by decide +kernel
theorem dX4_end_58 : decode cX4_end 58 = .ok (.iconst (-1), 1) := by decide +kernel
theorem dX4_end_59 : decode cX4_end 59 = .ok (.if_icmp .ne 7, 3) := by decide +kernel
theorem dX4_end_62 : decode cX4_end 62 = .ok (.iconst 0, 1) := by decide +kernel
theorem dX4_end_63 : decode cX4_end 63 = .ok (.goto 4, 3) := by decide +kernel
theorem dX4_end_66 : decode cX4_end 66 = .ok (.iconst 1, 1) := by decide +kernel
theorem dX4_end_67 : decode cX4_end 67 = .ok (.iadd, 1) := by decide +kernel
theorem dX4_end_68 : decode cX4_end 68 = .ok (.putfield 132, 3) := by decide +kernel
theorem dX4_end_71 : decode cX4_end 71 = .ok (.iconst 0, 1) := by decide +kernel
theorem dX4_end_72 : decode cX4_end 72 = .ok (.istore 4, 2) := by decide +kernel
theorem dX4_end_74 : decode cX4_end 74 = .ok (.iload 4, 2) := by decide +kernel
theorem dX4_end_76 : decode cX4_end 76 = .ok (.aload_n 0, 1) := by decide +kernel
theorem dX4_end_77 : decode cX4_end 77 = .ok (.getfield 69, 3) := by decide +kernel
theorem dX4_end_80 : decode cX4_end 80 = .ok (.if_icmp .ge 115, 3) := by decide +kernel
theorem dX4_end_83 : decode cX4_end 83 = .ok (.iload_n 3, 1) := by decide +kernel
theorem dX4_end_84 : decode cX4_end 84 = .ok (.iconst (-1), 1) := by decide +kernel
theorem dX4_end_85 : decode cX4_end 85 = .ok (.if_icmp .eq 110, 3) := by decide +kernel
theorem dX4_end_88 : decode cX4_end 88 = .ok (.iconst 0, 1) := by decide +kernel
theorem dX4_end_89 : decode cX4_end 89 = .ok (.istore 5, 2) := by decide +kernel
theorem dX4_end_91 : decode cX4_end 91 = .ok (.iload 5, 2) := by decide +kernel
theorem dX4_end_93 : decode cX4_end 93 = .ok (.aload_n 0, 1) := by decide +kernel
theorem dX4_end_94 : decode cX4_end 94 = .ok (.getfield 66, 3) := by decide +kernel
theorem dX4_end_97 : decode cX4_end 97 = .ok (.if_icmp .ge 92, 3) := by decide +kernel
theorem dX4_end_100 : decode cX4_end 100 = .ok (.aload_n 0, 1) := by decide +kernel
theorem dX4_end_101 : decode cX4_end 101 = .ok (.iload 5, 2) := by decide +kernel
theorem dX4_end_103 : decode cX4_end 103 = .ok (.iload 4, 2) := by decide +kernel
theorem dX4_end_105 : decode cX4_end 105 = .ok (.invokevirtual 143, 3) := by decide +kernel
theorem dX4_end_108 : decode cX4_end 108 = .ok (.istore 6, 2) := by decide +kernel
theorem dX4_end_110 : decode cX4_end 110 = .ok (.aload_n 0, 1) := by decide +kernel
theorem dX4_end_111 : decode cX4_end 111 = .ok (.getfield 39, 3) := by decide +kernel
theorem dX4_end_114 : decode cX4_end 114 = .ok (.sipush 144, 3) := by decide +kernel
theorem dX4_end_117 : decode cX4_end 117 = .ok (.iload_n 3, 1) := by decide +kernel
theorem dX4_end_118 : decode cX4_end 118 = .ok (.imul, 1) := by decide +kernel
theorem dX4_end_119 : decode cX4_end 119 = .ok (.iload 6, 2) := by decide +kernel
theorem dX4_end_121 : decode cX4_end 121 = .ok (.iadd, 1) := by decide +kernel
theorem dX4_end_122 : decode cX4_end 122 = .ok (.iaload, 1) := by decide +kernel
theorem dX4_end_123 : decode cX4_end 123 = .ok (.istore 7, 2) := by decide +kernel
theorem dX4_end_125 : decode cX4_end 125 = .ok (.aload_n 0, 1) := by decide +kernel
theorem dX4_end_126 : decode cX4_end 126 = .ok (.getfield 36, 3) := by decide +kernel
theorem dX4_end_129 : decode cX4_end 129 = .ok (.sipush 144, 3) := by decide +kernel
theorem dX4_end_132 : decode cX4_end 132 = .ok (.iload_n 3, 1) := by decide +kernel
theorem dX4_end_133 : decode cX4_end 133 = .ok (.imul, 1) := by decide +kernel
theorem dX4_end_134 : decode cX4_end 134 = .ok (.iload 6, 2) := by decide +kernel
theorem dX4_end_136 : decode cX4_end 136 = .ok (.iadd, 1) := by decide +kernel
theorem dX4_end_137 : decode cX4_end 137 = .ok (.iaload, 1) := by decide +kernel
theorem dX4_end_138 : decode cX4_end 138 = .ok (.iload_n 2, 1) := by decide +kernel
theorem dX4_end_139 : decode cX4_end 139 = .ok (.invokestatic 75, 3) := by decide +kernel
theorem dX4_end_142 : decode cX4_end 142 = .ok (.istore 8, 2) := by decide +kernel
theorem dX4_end_144 : decode cX4_end 144 = .ok (.aload_n 0, 1) := by decide +kernel
theorem dX4_end_145 : decode cX4_end 145 = .ok (.iload_n 3, 1) := by decide +kernel
theorem dX4_end_146 : decode cX4_end 146 = .ok (.iload 6, 2) := by decide +kernel
theorem dX4_end_148 : decode cX4_end 148 = .ok (.invokevirtual 146, 3) := by decide +kernel
theorem dX4_end_151 : decode cX4_end 151 = .ok (.aload_n 0, 1) := by decide +kernel
theorem dX4_end_152 : decode cX4_end 152 = .ok (.iload_n 3, 1) := by decide +kernel
theorem dX4_end_153 : decode cX4_end 153 = .ok (.iconst 1, 1) := by decide +kernel
theorem dX4_end_154 : decode cX4_end 154 = .ok (.isub, 1) := by decide +kernel
theorem dX4_end_155 : decode cX4_end 155 = .ok (.iload 6, 2) := by decide +kernel
theorem dX4_end_157 : decode cX4_end 157 = .ok (.iload_n 1, 1) := by decide +kernel
theorem dX4_end_158 : decode cX4_end 158 = .ok (.iload 7, 2) := by decide +kernel
theorem dX4_end_160 : decode cX4_end 160 = .ok (.aload_n 0, 1) := by decide +kernel
theorem dX4_end_161 : decode cX4_end 161 = .ok (.iload 8, 2) := by decide +kernel
theorem dX4_end_163 : decode cX4_end 163 = .ok (.iload 7, 2) := by decide +kernel
theorem dX4_end_165 : decode cX4_end 165 = .ok (.if_icmp .le 8, 3) := by decide +kernel
theorem dX4_end_168 : decode cX4_end 168 = .ok (.iload 7, 2) := by decide +kernel
theorem dX4_end_170 : decode cX4_end 170 = .ok (.goto 5, 3) := by decide +kernel
theorem dX4_end_173 : decode cX4_end 173 = .ok (.iload 8, 2) := by decide +kernel
theorem dX4_end_175 : decode cX4_end 175 = .ok (.iload 6, 2) := by decide +kernel
theorem dX4_end_177 : decode cX4_end 177 = .ok (.invokevirtual 150, 3) := by decide +kernel
theorem dX4_end_180 : decode cX4_end 180 = .ok (.invokevirtual 153, 3) := by decide +kernel
theorem dX4_end_183 : decode cX4_end 183 = .ok (.iinc 5 1, 3) := by decide +kernel
theorem dX4_end_186 : decode cX4_end 186 = .ok (.goto (-95), 3) := by decide +kernel
theorem dX4_end_189 : decode cX4_end 189 = .ok (.iinc 4 1, 3) := by decide +kernel
theorem dX4_end_192 : decode cX4_end 192 = .ok (.goto (-118), 3) := by decide +kernel
theorem dX4_end_195 : decode cX4_end 195 = .ok (.aload_n 0, 1) := by decide +kernel
theorem dX4_end_196 : decode cX4_end 196 = .ok (.getfield 13, 3) := by decide +kernel
theorem dX4_end_199 : decode cX4_end 199 = .ok (.ireturn, 1) := by decide +kernel
theorem dX4_mask_0 : decode cX4_mask 0 = .ok (.aload_n 0, 1) := by decide +kernel
theorem dX4_mask_1 : decode cX4_mask 1 = .ok (.aload_n 0, 1) := by decide +kernel
theorem dX4_mask_2 : decode cX4_mask 2 = .ok (.getfield 13, 3) := by decide +kernel
theorem dX4_mask_5 : decode cX4_mask 5 = .ok (.iconst 1, 1) := by decide +kernel
theorem dX4_mask_6 : decode cX4_mask 6 = .ok (.if_icmp .ne 7, 3) := by decide +kernel
theorem dX4_mask_9 : decode cX4_mask 9 = .ok (.iconst 1, 1) := by decide +kernel
theorem dX4_mask_10 : decode cX4_mask 10 = .ok (.goto 18, 3) := by decide +kernel
theorem dX4_mask_13 : decode cX4_mask 13 = .ok (.iload_n 1, 1) := by decide +kernel
theorem dX4_mask_14 : decode cX4_mask 14 = .ok (.iconst 1, 1) := by decide +kernel
theorem dX4_mask_15 : decode cX4_mask 15 = .ok (.if_icmp .lt 8, 3) := by decide +kernel
theorem dX4_mask_18 : decode cX4_mask 18 = .ok (.iload_n 1, 1) := by decide +kernel
theorem dX4_mask_19 : decode cX4_mask 19 = .ok (.iconst 2, 1) := by decide +kernel
theorem dX4_mask_20 : decode cX4_mask 20 = .ok (.if_icmp .le 7, 3) := by decide +kernel
theorem dX4_mask_23 : decode cX4_mask 23 = .ok (.iconst 2, 1) := by decide +kernel
theorem dX4_mask_24 : decode cX4_mask 24 = .ok (.goto 4, 3) := by decide +kernel
theorem dX4_mask_27 : decode cX4_mask 27 = .ok (.iconst 0, 1) := by decide +kernel
theorem dX4_mask_28 : decode cX4_mask 28 = .ok (.putfield 72, 3) := by decide +kernel
theorem dX4_mask_31 : decode cX4_mask 31 = .ok (.aload_n 0, 1) := by decide +kernel
theorem dX4_mask_32 : decode cX4_mask 32 = .ok (.getfield 72, 3) := by decide +kernel
theorem dX4_mask_35 : decode cX4_mask 35 = .ok (.ifCond .le 5, 3) := by decide +kernel
theorem dX4_mask_38 : decode cX4_mask 38 = .ok (.iconst 0, 1) := by decide +kernel
theorem dX4_mask_39 : decode cX4_mask 39 = .ok (.ireturn, 1) := by decide +kernel
theorem dX4_mask_40 : decode cX4_mask 40 = .ok (.aload_n 0, 1) := by decide +kernel
theorem dX4_mask_41 : decode cX4_mask 41 = .ok (.invokevirtual 139, 3) := by decide +kernel
theorem dX4_mask_44 : decode cX4_mask 44 = .ok (.istore_n 3, 1) := by decide +kernel
theorem dX4_mask_45 : decode cX4_mask 45 = .ok (.iconst 0, 1) := by decide +kernel
theorem dX4_mask_46 : decode cX4_mask 46 = .ok (.istore 4, 2) := by decide +kernel
theorem dX4_mask_48 : decode cX4_mask 48 = .ok (.iload 4, 2) := by decide +kernel
theorem dX4_mask_50 : decode cX4_mask 50 = .ok (.sipush 144, 3) := by decide +kernel
theorem dX4_mask_53 : decode cX4_mask 53 = .ok (.if_icmp .ge 111, 3) := by decide +kernel
theorem dX4_mask_56 : decode cX4_mask 56 = .ok (.iload_n 3, 1) := by decide +kernel
theorem dX4_mask_57 : decode cX4_mask 57 = .ok (.iconst (-1), 1) := by decide +kernel
theorem dX4_mask_58 : decode cX4_mask 58 = .ok (.if_icmp .eq 106, 3) := by decide +kernel
theorem dX4_mask_61 : decode cX4_mask 61 = .ok (.aload_n 0, 1) := by decide +kernel
theorem dX4_mask_62 : decode cX4_mask 62 = .ok (.getfield 36, 3) := by decide +kernel
theorem dX4_mask_65 : decode cX4_mask 65 = .ok (.sipush 144, 3) := by decide +kernel
theorem dX4_mask_68 : decode cX4_mask 68 = .ok (.iload_n 3, 1) := by decide +kernel
theorem dX4_mask_69 : decode cX4_mask 69 = .ok (.imul, 1) := by decide +kernel
theorem dX4_mask_70 : decode cX4_mask 70 = .ok (.iload 4, 2) := by decide +kernel
theorem dX4_mask_72 : decode cX4_mask 72 = .ok (.iadd, 1) := by decide +kernel
theorem dX4_mask_73 : decode cX4_mask 73 = .ok (.iaload, 1) := by decide +kernel
theorem dX4_mask_74 : decode cX4_mask 74 = .ok (.istore 5, 2) := by decide +kernel
theorem dX4_mask_76 : decode cX4_mask 76 = .ok (.iload_n 1, 1) := by decide +kernel
theorem dX4_mask_77 : decode cX4_mask 77 = .ok (.iconst 2, 1) := by decide +kernel
theorem dX4_mask_78 : decode cX4_mask 78 = .ok (.if_icmp .ne 53, 3) := by decide +kernel
theorem dX4_mask_81 : decode cX4_mask 81 = .ok (.aload_n 0, 1) := by decide +kernel
theorem dX4_mask_82 : decode cX4_mask 82 = .ok (.iload_n 3, 1) := by decide +kernel
theorem dX4_mask_83 : decode cX4_mask 83 = .ok (.iload 4, 2) := by decide +kernel
theorem dX4_mask_85 : decode cX4_mask 85 = .ok (.invokevirtual 146, 3) := by decide +kernel
theorem dX4_mask_88 : decode cX4_mask 88 = .ok (.iconst 0, 1) := by decide +kernel
theorem dX4_mask_89 : decode cX4_mask 89 = .ok (.istore 6, 2) := by decide +kernel
theorem dX4_mask_91 : decode cX4_mask 91 = .ok (.iload 6, 2) := by decide +kernel
theorem dX4_mask_93 : decode cX4_mask 93 = .ok (.iconst 3, 1) := by decide +kernel
theorem dX4_mask_94 : decode cX4_mask 94 = .ok (.if_icmp .ge 28, 3) := by decide +kernel
theorem dX4_mask_97 : decode cX4_mask 97 = .ok (.aload_n 0, 1) := by decide +kernel
theorem dX4_mask_98 : decode cX4_mask 98 = .ok (.getfield 54, 3) := by decide +kernel
theorem dX4_mask_101 : decode cX4_mask 101 = .ok (.iload 6, 2) := by decide +kernel
theorem dX4_mask_103 : decode cX4_mask 103 = .ok (.aload_n 0, 1) := by decide +kernel
theorem dX4_mask_104 : decode cX4_mask 104 = .ok (.getfield 54, 3) := by decide +kernel
theorem dX4_mask_107 : decode cX4_mask 107 = .ok (.iload 6, 2) := by decide +kernel
theorem dX4_mask_109 : decode cX4_mask 109 = .ok (.iaload, 1) := by decide +kernel
theorem dX4_mask_110 : decode cX4_mask 110 = .ok (.iload 5, 2) := by decide +kernel
theorem dX4_mask_112 : decode cX4_mask 112 = .ok (.invokestatic 75, 3) := by decide +kernel
theorem dX4_mask_115 : decode cX4_mask 115 = .ok (.iastore, 1) := by decide +kernel
theorem dX4_mask_116 : decode cX4_mask 116 = .ok (.iinc 6 1, 3) := by decide +kernel
theorem dX4_mask_119 : decode cX4_mask 119 = .ok (.goto (-28), 3) := by decide +kernel
theorem dX4_mask_122 : decode cX4_mask 122 = .ok (.aload_n 0, 1) := by decide +kernel
theorem dX4_mask_123 : decode cX4_mask 123 = .ok (.getfield 54, 3) := by decide +kernel
theorem dX4_mask_126 : decode cX4_mask 126 = .ok (.invokestatic 104, 3) := by decide +kernel
theorem dX4_mask_129 : decode cX4_mask 129 = .ok (.istore 5, 2) := by decide +kernel
theorem dX4_mask_131 : decode cX4_mask 131 = .ok (.aload_n 0, 1) := by decide +kernel
theorem dX4_mask_132 : decode cX4_mask 132 = .ok (.getfield 42, 3) := by decide +kernel
theorem dX4_mask_135 : decode cX4_mask 135 = .ok (.iload 4, 2) := by decide +kernel
theorem dX4_mask_137 : decode cX4_mask 137 = .ok (.iload_n 2, 1) := by decide +kernel
theorem dX4_mask_138 : decode cX4_mask 138 = .ok (.ifCond .eq 12, 3) := by decide +kernel
theorem dX4_mask_141 : decode cX4_mask 141 = .ok (.sipush 255, 3) := by decide +kernel
theorem dX4_mask_144 : decode cX4_mask 144 = .ok (.iload 5, 2) := by decide +kernel
theorem dX4_mask_146 : decode cX4_mask 146 = .ok (.isub, 1) := by decide +kernel
theorem dX4_mask_147 : decode cX4_mask 147 = .ok (.goto 5, 3) := by decide +kernel
theorem dX4_mask_150 : decode cX4_mask 150 = .ok (.iload 5, 2) := by decide +kernel
theorem dX4_mask_152 : decode cX4_mask 152 = .ok (.iastore, 1) := by decide +kernel
theorem dX4_mask_153 : decode cX4_mask 153 = .ok (.aload_n 0, 1) := by decide +kernel
theorem dX4_mask_154 : decode cX4_mask 154 = .ok (.iconst 1, 1) := by decide +kernel
theorem dX4_mask_155 : decode cX4_mask 155 = .ok (.putfield 122, 3) := by decide +kernel
theorem dX4_mask_158 : decode cX4_mask 158 = .ok (.iinc 4 1, 3) := by decide +kernel
theorem dX4_mask_161 : decode cX4_mask 161 = .ok (.goto (-113), 3) := by decide +kernel
theorem dX4_mask_164 : decode cX4_mask 164 = .ok (.aload_n 0, 1) := by decide +kernel
theorem dX4_mask_165 : decode cX4_mask 165 = .ok (.getfield 13, 3) := by decide +kernel
theorem dX4_mask_168 : decode cX4_mask 168 = .ok (.ireturn, 1) := by decide +kernel
theorem dX4_unmask_0 : decode cX4_unmask 0 = .ok (.aload_n 0, 1) := by decide +kernel
theorem dX4_unmask_1 : decode cX4_unmask 1 = .ok (.iconst 0, 1) := by decide +kernel
theorem dX4_unmask_2 : decode cX4_unmask 2 = .ok (.putfield 72, 3) := by decide +kernel
theorem dX4_unmask_5 : decode cX4_unmask 5 = .ok (.aload_n 0, 1) := by decide +kernel
theorem dX4_unmask_6 : decode cX4_unmask 6 = .ok (.iconst 0, 1) := by decide +kernel
theorem dX4_unmask_7 : decode cX4_unmask 7 = .ok (.putfield 122, 3) := by decide +kernel
theorem dX4_unmask_10 : decode cX4_unmask 10 = .ok (.return_, 1) := by decide +kernel
theorem dX4_colour_0 : decode cX4_colour 0 = .ok (.aload_n 0, 1) := by decide +kernel
theorem dX4_colour_1 : decode cX4_colour 1 = .ok (.iload_n 2, 1) := by decide +kernel
theorem dX4_colour_2 : decode cX4_colour 2 = .ok (.invokestatic 135, 3) := by decide +kernel
theorem dX4_colour_5 : decode cX4_colour 5 = .ok (.ifCond .ne 7, 3) := by decide +kernel
theorem dX4_colour_8 : decode cX4_colour 8 = .ok (.iconst 1, 1) := by decide +kernel
theorem dX4_colour_9 : decode cX4_colour 9 = .ok (.goto 15, 3) := by decide +kernel
theorem dX4_colour_12 : decode cX4_colour 12 = .ok (.iload_n 1, 1) := by decide +kernel
theorem dX4_colour_13 : decode cX4_colour 13 = .ok (.invokestatic 157, 3) := by decide +kernel
theorem dX4_colour_16 : decode cX4_colour 16 = .ok (.ifCond .ne 7, 3) := by decide +kernel
theorem dX4_colour_19 : decode cX4_colour 19 = .ok (.iconst 2, 1) := by decide +kernel
theorem dX4_colour_20 : decode cX4_colour 20 = .ok (.goto 4, 3) := by decide +kernel
theorem dX4_colour_23 : decode cX4_colour 23 = .ok (.iconst 0, 1) := by decide +kernel
theorem dX4_colour_24 : decode cX4_colour 24 = .ok (.putfield 72, 3) := by decide +kernel
theorem dX4_colour_27 : decode cX4_colour 27 = .ok (.aload_n 0, 1) := by decide +kernel
theorem dX4_colour_28 : decode cX4_colour 28 = .ok (.getfield 72, 3) := by decide +kernel
theorem dX4_colour_31 : decode cX4_colour 31 = .ok (.ifCond .ne 10, 3) := by decide +kernel
theorem dX4_colour_34 : decode cX4_colour 34 = .ok (.aload_n 0, 1) := by decide +kernel
theorem dX4_colour_35 : decode cX4_colour 35 = .ok (.getfield 48, 3) := by decide +kernel
theorem dX4_colour_38 : decode cX4_colour 38 = .ok (.iload_n 1, 1) := by decide +kernel
theorem dX4_colour_39 : decode cX4_colour 39 = .ok (.iload_n 2, 1) := by decide +kernel
theorem dX4_colour_40 : decode cX4_colour 40 = .ok (.iastore, 1) := by decide +kernel
theorem dX4_colour_41 : decode cX4_colour 41 = .ok (.return_, 1) := by decide +kernel
theorem dX4_stays_0 : decode cX4_stays 0 = .ok (.aload_n 0, 1) := by decide +kernel
theorem dX4_stays_1 : decode cX4_stays 1 = .ok (.iload_n 1, 1) := by decide +kernel
theorem dX4_stays_2 : decode cX4_stays 2 = .ok (.invokestatic 157, 3) := by decide +kernel
theorem dX4_stays_5 : decode cX4_stays 5 = .ok (.ifCond .eq 7, 3) := by decide +kernel
theorem dX4_stays_8 : decode cX4_stays 8 = .ok (.iconst 0, 1) := by decide +kernel
theorem dX4_stays_9 : decode cX4_stays 9 = .ok (.goto 4, 3) := by decide +kernel
theorem dX4_stays_12 : decode cX4_stays 12 = .ok (.iconst 1, 1) := by decide +kernel
theorem dX4_stays_13 : decode cX4_stays 13 = .ok (.putfield 72, 3) := by decide +kernel
theorem dX4_stays_16 : decode cX4_stays 16 = .ok (.aload_n 0, 1) := by decide +kernel
theorem dX4_stays_17 : decode cX4_stays 17 = .ok (.getfield 72, 3) := by decide +kernel
theorem dX4_stays_20 : decode cX4_stays 20 = .ok (.ifCond .ne 10, 3) := by decide +kernel
theorem dX4_stays_23 : decode cX4_stays 23 = .ok (.aload_n 0, 1) := by decide +kernel
theorem dX4_stays_24 : decode cX4_stays 24 = .ok (.getfield 51, 3) := by decide +kernel
theorem dX4_stays_27 : decode cX4_stays 27 = .ok (.iload_n 1, 1) := by decide +kernel
theorem dX4_stays_28 : decode cX4_stays 28 = .ok (.iload_n 2, 1) := by decide +kernel
theorem dX4_stays_29 : decode cX4_stays 29 = .ok (.bastore, 1) := by decide +kernel
theorem dX4_stays_30 : decode cX4_stays 30 = .ok (.return_, 1) := by decide +kernel
theorem dX4_cover_0 : decode cX4_cover 0 = .ok (.aload_n 0, 1) := by decide +kernel
theorem dX4_cover_1 : decode cX4_cover 1 = .ok (.iload_n 3, 1) := by decide +kernel
theorem dX4_cover_2 : decode cX4_cover 2 = .ok (.invokestatic 135, 3) := by decide +kernel
theorem dX4_cover_5 : decode cX4_cover 5 = .ok (.ifCond .ne 7, 3) := by decide +kernel
theorem dX4_cover_8 : decode cX4_cover 8 = .ok (.iconst 1, 1) := by decide +kernel
theorem dX4_cover_9 : decode cX4_cover 9 = .ok (.goto 17, 3) := by decide +kernel
theorem dX4_cover_12 : decode cX4_cover 12 = .ok (.aload_n 0, 1) := by decide +kernel
theorem dX4_cover_13 : decode cX4_cover 13 = .ok (.iload_n 1, 1) := by decide +kernel
theorem dX4_cover_14 : decode cX4_cover 14 = .ok (.iload_n 2, 1) := by decide +kernel
theorem dX4_cover_15 : decode cX4_cover 15 = .ok (.invokevirtual 160, 3) := by decide +kernel
theorem dX4_cover_18 : decode cX4_cover 18 = .ok (.ifCond .ne 7, 3) := by decide +kernel
theorem dX4_cover_21 : decode cX4_cover 21 = .ok (.iconst 2, 1) := by decide +kernel
theorem dX4_cover_22 : decode cX4_cover 22 = .ok (.goto 4, 3) := by decide +kernel
theorem dX4_cover_25 : decode cX4_cover 25 = .ok (.iconst 0, 1) := by decide +kernel
theorem dX4_cover_26 : decode cX4_cover 26 = .ok (.putfield 72, 3) := by decide +kernel
theorem dX4_cover_29 : decode cX4_cover 29 = .ok (.aload_n 0, 1) := by decide +kernel
theorem dX4_cover_30 : decode cX4_cover 30 = .ok (.getfield 72, 3) := by decide +kernel
theorem dX4_cover_33 : decode cX4_cover 33 = .ok (.ifCond .ne 15, 3) := by decide +kernel
theorem dX4_cover_36 : decode cX4_cover 36 = .ok (.aload_n 0, 1) := by decide +kernel
theorem dX4_cover_37 : decode cX4_cover 37 = .ok (.getfield 45, 3) := by decide +kernel
theorem dX4_cover_40 : decode cX4_cover 40 = .ok (.aload_n 0, 1) := by decide +kernel
theorem dX4_cover_41 : decode cX4_cover 41 = .ok (.iload_n 1, 1) := by decide +kernel
theorem dX4_cover_42 : decode cX4_cover 42 = .ok (.iload_n 2, 1) := by decide +kernel
theorem dX4_cover_43 : decode cX4_cover 43 = .ok (.invokevirtual 143, 3) := by decide +kernel
theorem dX4_cover_46 : decode cX4_cover 46 = .ok (.iload_n 3, 1) := by decide +kernel
theorem dX4_cover_47 : decode cX4_cover 47 = .ok (.iastore, 1) := by decide +kernel
theorem dX4_cover_48 : decode cX4_cover 48 = .ok (.return_, 1) := by decide +kernel
theorem dX4_fill_0 : decode cX4_fill 0 = .ok (.aload_n 0, 1) := by decide +kernel
theorem dX4_fill_1 : decode cX4_fill 1 = .ok (.iload 5, 2) := by decide +kernel
theorem dX4_fill_3 : decode cX4_fill 3 = .ok (.invokestatic 135, 3) := by decide +kernel
theorem dX4_fill_6 : decode cX4_fill 6 = .ok (.ifCond .eq 7, 3) := by decide +kernel
theorem dX4_fill_9 : decode cX4_fill 9 = .ok (.iconst 0, 1) := by decide +kernel
theorem dX4_fill_10 : decode cX4_fill 10 = .ok (.goto 4, 3) := by decide +kernel
theorem dX4_fill_13 : decode cX4_fill 13 = .ok (.iconst 1, 1) := by decide +kernel
theorem dX4_fill_14 : decode cX4_fill 14 = .ok (.putfield 72, 3) := by decide +kernel
theorem dX4_fill_17 : decode cX4_fill 17 = .ok (.iconst 0, 1) := by decide +kernel
theorem dX4_fill_18 : decode cX4_fill 18 = .ok (.istore 6, 2) := by decide +kernel
theorem dX4_fill_20 : decode cX4_fill 20 = .ok (.iload 6, 2) := by decide +kernel
theorem dX4_fill_22 : decode cX4_fill 22 = .ok (.aload_n 0, 1) := by decide +kernel
theorem dX4_fill_23 : decode cX4_fill 23 = .ok (.getfield 66, 3) := by decide +kernel
theorem dX4_fill_26 : decode cX4_fill 26 = .ok (.if_icmp .ge 74, 3) := by decide +kernel
theorem dX4_fill_29 : decode cX4_fill 29 = .ok (.aload_n 0, 1) := by decide +kernel
theorem dX4_fill_30 : decode cX4_fill 30 = .ok (.getfield 72, 3) := by decide +kernel
theorem dX4_fill_33 : decode cX4_fill 33 = .ok (.ifCond .ne 67, 3) := by decide +kernel
theorem dX4_fill_36 : decode cX4_fill 36 = .ok (.iconst 0, 1) := by decide +kernel
theorem dX4_fill_37 : decode cX4_fill 37 = .ok (.istore 7, 2) := by decide +kernel
theorem dX4_fill_39 : decode cX4_fill 39 = .ok (.iload 7, 2) := by decide +kernel
theorem dX4_fill_41 : decode cX4_fill 41 = .ok (.aload_n 0, 1) := by decide +kernel
theorem dX4_fill_42 : decode cX4_fill 42 = .ok (.getfield 69, 3) := by decide +kernel
theorem dX4_fill_45 : decode cX4_fill 45 = .ok (.if_icmp .ge 49, 3) := by decide +kernel
theorem dX4_fill_48 : decode cX4_fill 48 = .ok (.iload 6, 2) := by decide +kernel
theorem dX4_fill_50 : decode cX4_fill 50 = .ok (.iload_n 1, 1) := by decide +kernel
theorem dX4_fill_51 : decode cX4_fill 51 = .ok (.if_icmp .lt 37, 3) := by decide +kernel
theorem dX4_fill_54 : decode cX4_fill 54 = .ok (.iload 6, 2) := by decide +kernel
theorem dX4_fill_56 : decode cX4_fill 56 = .ok (.iload_n 3, 1) := by decide +kernel
theorem dX4_fill_57 : decode cX4_fill 57 = .ok (.if_icmp .gt 31, 3) := by decide +kernel
theorem dX4_fill_60 : decode cX4_fill 60 = .ok (.iload 7, 2) := by decide +kernel
theorem dX4_fill_62 : decode cX4_fill 62 = .ok (.iload_n 2, 1) := by decide +kernel
theorem dX4_fill_63 : decode cX4_fill 63 = .ok (.if_icmp .lt 25, 3) := by decide +kernel
theorem dX4_fill_66 : decode cX4_fill 66 = .ok (.iload 7, 2) := by decide +kernel
theorem dX4_fill_68 : decode cX4_fill 68 = .ok (.iload 4, 2) := by decide +kernel
theorem dX4_fill_70 : decode cX4_fill 70 = .ok (.if_icmp .gt 18, 3) := by decide +kernel
theorem dX4_fill_73 : decode cX4_fill 73 = .ok (.aload_n 0, 1) := by decide +kernel
theorem dX4_fill_74 : decode cX4_fill 74 = .ok (.getfield 45, 3) := by decide +kernel
theorem dX4_fill_77 : decode cX4_fill 77 = .ok (.aload_n 0, 1) := by decide +kernel
theorem dX4_fill_78 : decode cX4_fill 78 = .ok (.iload 6, 2) := by decide +kernel
theorem dX4_fill_80 : decode cX4_fill 80 = .ok (.iload 7, 2) := by decide +kernel
theorem dX4_fill_82 : decode cX4_fill 82 = .ok (.invokevirtual 143, 3) := by decide +kernel
theorem dX4_fill_85 : decode cX4_fill 85 = .ok (.iload 5, 2) := by decide +kernel
theorem dX4_fill_87 : decode cX4_fill 87 = .ok (.iastore, 1) := by decide +kernel
theorem dX4_fill_88 : decode cX4_fill 88 = .ok (.iinc 7 1, 3) := by decide +kernel
theorem dX4_fill_91 : decode cX4_fill 91 = .ok (.goto (-52), 3) := by decide +kernel
theorem dX4_fill_94 : decode cX4_fill 94 = .ok (.iinc 6 1, 3) := by decide +kernel
theorem dX4_fill_97 : decode cX4_fill 97 = .ok (.goto (-77), 3) := by decide +kernel
theorem dX4_fill_100 : decode cX4_fill 100 = .ok (.return_, 1) := by decide +kernel
theorem dX4_mark_0 : decode cX4_mark 0 = .ok (.aload_n 0, 1) := by decide +kernel
theorem dX4_mark_1 : decode cX4_mark 1 = .ok (.iload_n 1, 1) := by decide +kernel
theorem dX4_mark_2 : decode cX4_mark 2 = .ok (.ifCond .lt 23, 3) := by decide +kernel
theorem dX4_mark_5 : decode cX4_mark 5 = .ok (.iload_n 1, 1) := by decide +kernel
theorem dX4_mark_6 : decode cX4_mark 6 = .ok (.bipush 15, 2) := by decide +kernel
theorem dX4_mark_8 : decode cX4_mark 8 = .ok (.if_icmp .gt 17, 3) := by decide +kernel
theorem dX4_mark_11 : decode cX4_mark 11 = .ok (.iload_n 2, 1) := by decide +kernel
theorem dX4_mark_12 : decode cX4_mark 12 = .ok (.invokestatic 135, 3) := by decide +kernel
theorem dX4_mark_15 : decode cX4_mark 15 = .ok (.ifCond .eq 10, 3) := by decide +kernel
theorem dX4_mark_18 : decode cX4_mark 18 = .ok (.iload_n 3, 1) := by decide +kernel
theorem dX4_mark_19 : decode cX4_mark 19 = .ok (.invokestatic 135, 3) := by decide +kernel
theorem dX4_mark_22 : decode cX4_mark 22 = .ok (.ifCond .ne 7, 3) := by decide +kernel
theorem dX4_mark_25 : decode cX4_mark 25 = .ok (.iconst 1, 1) := by decide +kernel
theorem dX4_mark_26 : decode cX4_mark 26 = .ok (.goto 4, 3) := by decide +kernel
theorem dX4_mark_29 : decode cX4_mark 29 = .ok (.iconst 0, 1) := by decide +kernel
theorem dX4_mark_30 : decode cX4_mark 30 = .ok (.putfield 72, 3) := by decide +kernel
theorem dX4_mark_33 : decode cX4_mark 33 = .ok (.iconst 0, 1) := by decide +kernel
theorem dX4_mark_34 : decode cX4_mark 34 = .ok (.istore 4, 2) := by decide +kernel
theorem dX4_mark_36 : decode cX4_mark 36 = .ok (.aload_n 0, 1) := by decide +kernel
theorem dX4_mark_37 : decode cX4_mark 37 = .ok (.dup, 1) := by decide +kernel
theorem dX4_mark_38 : decode cX4_mark 38 = .ok (.getfield 132, 3) := by decide +kernel
theorem dX4_mark_41 : decode cX4_mark 41 = .ok (.aload_n 0, 1) := by decide +kernel
theorem dX4_mark_42 : decode cX4_mark 42 = .ok (.getfield 72, 3) := by decide +kernel
theorem dX4_mark_45 : decode cX4_mark 45 = .ok (.ifCond .ne 7, 3) := by decide +kernel
theorem dX4_mark_48 : decode cX4_mark 48 = .ok (.iconst 1, 1) := by decide +kernel
theorem dX4_mark_49 : decode cX4_mark 49 = .ok (.goto 4, 3) := by decide +kernel
theorem dX4_mark_52 : decode cX4_mark 52 = .ok (.iconst 0, 1) := by decide +kernel
theorem dX4_mark_53 : decode cX4_mark 53 = .ok (.iadd, 1) := by decide +kernel
theorem dX4_mark_54 : decode cX4_mark 54 = .ok (.putfield 132, 3) := by decide +kernel
theorem dX4_mark_57 : decode cX4_mark 57 = .ok (.iconst 0, 1) := by decide +kernel
theorem dX4_mark_58 : decode cX4_mark 58 = .ok (.istore 5, 2) := by decide +kernel
theorem dX4_mark_60 : decode cX4_mark 60 = .ok (.iload 5, 2) := by decide +kernel
theorem dX4_mark_62 : decode cX4_mark 62 = .ok (.aload_n 0, 1) := by decide +kernel
theorem dX4_mark_63 : decode cX4_mark 63 = .ok (.getfield 69, 3) := by decide +kernel
theorem dX4_mark_66 : decode cX4_mark 66 = .ok (.if_icmp .ge 130, 3) := by decide +kernel
theorem dX4_mark_69 : decode cX4_mark 69 = .ok (.aload_n 0, 1) := by decide +kernel
theorem dX4_mark_70 : decode cX4_mark 70 = .ok (.getfield 72, 3) := by decide +kernel
theorem dX4_mark_73 : decode cX4_mark 73 = .ok (.ifCond .ne 123, 3) := by decide +kernel
theorem dX4_mark_76 : decode cX4_mark 76 = .ok (.iconst 0, 1) := by decide +kernel
theorem dX4_mark_77 : decode cX4_mark 77 = .ok (.istore 6, 2) := by decide +kernel
theorem dX4_mark_79 : decode cX4_mark 79 = .ok (.iload 6, 2) := by decide +kernel
theorem dX4_mark_81 : decode cX4_mark 81 = .ok (.aload_n 0, 1) := by decide +kernel
theorem dX4_mark_82 : decode cX4_mark 82 = .ok (.getfield 66, 3) := by decide +kernel
theorem dX4_mark_85 : decode cX4_mark 85 = .ok (.if_icmp .ge 105, 3) := by decide +kernel
theorem dX4_mark_88 : decode cX4_mark 88 = .ok (.aload_n 0, 1) := by decide +kernel
theorem dX4_mark_89 : decode cX4_mark 89 = .ok (.iload 6, 2) := by decide +kernel
theorem dX4_mark_91 : decode cX4_mark 91 = .ok (.iload 5, 2) := by decide +kernel
theorem dX4_mark_93 : decode cX4_mark 93 = .ok (.invokevirtual 143, 3) := by decide +kernel
theorem dX4_mark_96 : decode cX4_mark 96 = .ok (.istore 7, 2) := by decide +kernel
theorem dX4_mark_98 : decode cX4_mark 98 = .ok (.aload_n 0, 1) := by decide +kernel
theorem dX4_mark_99 : decode cX4_mark 99 = .ok (.getfield 45, 3) := by decide +kernel
theorem dX4_mark_102 : decode cX4_mark 102 = .ok (.iload 7, 2) := by decide +kernel
theorem dX4_mark_104 : decode cX4_mark 104 = .ok (.iaload, 1) := by decide +kernel
theorem dX4_mark_105 : decode cX4_mark 105 = .ok (.iload_n 2, 1) := by decide +kernel
theorem dX4_mark_106 : decode cX4_mark 106 = .ok (.invokestatic 75, 3) := by decide +kernel
theorem dX4_mark_109 : decode cX4_mark 109 = .ok (.istore 8, 2) := by decide +kernel
theorem dX4_mark_111 : decode cX4_mark 111 = .ok (.aload_n 0, 1) := by decide +kernel
theorem dX4_mark_112 : decode cX4_mark 112 = .ok (.iload 8, 2) := by decide +kernel
theorem dX4_mark_114 : decode cX4_mark 114 = .ok (.iload_n 3, 1) := by decide +kernel
theorem dX4_mark_115 : decode cX4_mark 115 = .ok (.invokestatic 75, 3) := by decide +kernel
theorem dX4_mark_118 : decode cX4_mark 118 = .ok (.iload 7, 2) := by decide +kernel
theorem dX4_mark_120 : decode cX4_mark 120 = .ok (.invokevirtual 150, 3) := by decide +kernel
theorem dX4_mark_123 : decode cX4_mark 123 = .ok (.istore 9, 2) := by decide +kernel
theorem dX4_mark_125 : decode cX4_mark 125 = .ok (.iload 4, 2) := by decide +kernel
theorem dX4_mark_127 : decode cX4_mark 127 = .ok (.iload 9, 2) := by decide +kernel
theorem dX4_mark_129 : decode cX4_mark 129 = .ok (.ifCond .le 7, 3) := by decide +kernel
theorem dX4_mark_132 : decode cX4_mark 132 = .ok (.iconst 1, 1) := by decide +kernel
theorem dX4_mark_133 : decode cX4_mark 133 = .ok (.goto 4, 3) := by decide +kernel
theorem dX4_mark_136 : decode cX4_mark 136 = .ok (.iconst 0, 1) := by decide +kernel
theorem dX4_mark_137 : decode cX4_mark 137 = .ok (.iadd, 1) := by decide +kernel
theorem dX4_mark_138 : decode cX4_mark 138 = .ok (.istore 4, 2) := by decide +kernel
theorem dX4_mark_140 : decode cX4_mark 140 = .ok (.iconst 0, 1) := by decide +kernel
theorem dX4_mark_141 : decode cX4_mark 141 = .ok (.istore 10, 2) := by decide +kernel
theorem dX4_mark_143 : decode cX4_mark 143 = .ok (.iload 10, 2) := by decide +kernel
theorem dX4_mark_145 : decode cX4_mark 145 = .ok (.iconst 3, 1) := by decide +kernel
theorem dX4_mark_146 : decode cX4_mark 146 = .ok (.if_icmp .ge 23, 3) := by decide +kernel
theorem dX4_mark_149 : decode cX4_mark 149 = .ok (.aload_n 0, 1) := by decide +kernel
theorem dX4_mark_150 : decode cX4_mark 150 = .ok (.getfield 54, 3) := by decide +kernel
theorem dX4_mark_153 : decode cX4_mark 153 = .ok (.iload 10, 2) := by decide +kernel
theorem dX4_mark_155 : decode cX4_mark 155 = .ok (.aload_n 0, 1) := by decide +kernel
theorem dX4_mark_156 : decode cX4_mark 156 = .ok (.getfield 48, 3) := by decide +kernel
theorem dX4_mark_159 : decode cX4_mark 159 = .ok (.iload 10, 2) := by decide +kernel
theorem dX4_mark_161 : decode cX4_mark 161 = .ok (.iaload, 1) := by decide +kernel
theorem dX4_mark_162 : decode cX4_mark 162 = .ok (.iastore, 1) := by decide +kernel
theorem dX4_mark_163 : decode cX4_mark 163 = .ok (.iinc 10 1, 3) := by decide +kernel
theorem dX4_mark_166 : decode cX4_mark 166 = .ok (.goto (-23), 3) := by decide +kernel
theorem dX4_mark_169 : decode cX4_mark 169 = .ok (.aload_n 0, 1) := by decide +kernel
theorem dX4_mark_170 : decode cX4_mark 170 = .ok (.aload_n 0, 1) := by decide +kernel
theorem dX4_mark_171 : decode cX4_mark 171 = .ok (.invokevirtual 164, 3) := by decide +kernel
theorem dX4_mark_174 : decode cX4_mark 174 = .ok (.iload 7, 2) := by decide +kernel
theorem dX4_mark_176 : decode cX4_mark 176 = .ok (.iload_n 1, 1) := by decide +kernel
theorem dX4_mark_177 : decode cX4_mark 177 = .ok (.iload 8, 2) := by decide +kernel
theorem dX4_mark_179 : decode cX4_mark 179 = .ok (.iload 9, 2) := by decide +kernel
theorem dX4_mark_181 : decode cX4_mark 181 = .ok (.invokevirtual 153, 3) := by decide +kernel
theorem dX4_mark_184 : decode cX4_mark 184 = .ok (.iinc 6 1, 3) := by decide +kernel
theorem dX4_mark_187 : decode cX4_mark 187 = .ok (.goto (-108), 3) := by decide +kernel
theorem dX4_mark_190 : decode cX4_mark 190 = .ok (.iinc 5 1, 3) := by decide +kernel
theorem dX4_mark_193 : decode cX4_mark 193 = .ok (.goto (-133), 3) := by decide +kernel
theorem dX4_mark_196 : decode cX4_mark 196 = .ok (.iload 4, 2) := by decide +kernel
theorem dX4_mark_198 : decode cX4_mark 198 = .ok (.ireturn, 1) := by decide +kernel
theorem dX4_point_0 : decode cX4_point 0 = .ok (.aload_n 0, 1) := by decide +kernel
theorem dX4_point_1 : decode cX4_point 1 = .ok (.aload_n 0, 1) := by decide +kernel
theorem dX4_point_2 : decode cX4_point 2 = .ok (.iload_n 1, 1) := by decide +kernel
theorem dX4_point_3 : decode cX4_point 3 = .ok (.iload_n 2, 1) := by decide +kernel
theorem dX4_point_4 : decode cX4_point 4 = .ok (.invokevirtual 160, 3) := by decide +kernel
theorem dX4_point_7 : decode cX4_point 7 = .ok (.ifCond .eq 14, 3) := by decide +kernel
theorem dX4_point_10 : decode cX4_point 10 = .ok (.iload_n 3, 1) := by decide +kernel
theorem dX4_point_11 : decode cX4_point 11 = .ok (.invokestatic 157, 3) := by decide +kernel
theorem dX4_point_14 : decode cX4_point 14 = .ok (.ifCond .eq 7, 3) := by decide +kernel
theorem dX4_point_17 : decode cX4_point 17 = .ok (.iconst 0, 1) := by decide +kernel
theorem dX4_point_18 : decode cX4_point 18 = .ok (.goto 4, 3) := by decide +kernel
theorem dX4_point_21 : decode cX4_point 21 = .ok (.iconst 1, 1) := by decide +kernel
theorem dX4_point_22 : decode cX4_point 22 = .ok (.putfield 72, 3) := by decide +kernel
theorem dX4_point_25 : decode cX4_point 25 = .ok (.aload_n 0, 1) := by decide +kernel
theorem dX4_point_26 : decode cX4_point 26 = .ok (.getfield 72, 3) := by decide +kernel
theorem dX4_point_29 : decode cX4_point 29 = .ok (.ifCond .le 7, 3) := by decide +kernel
theorem dX4_point_32 : decode cX4_point 32 = .ok (.iconst 0, 1) := by decide +kernel
theorem dX4_point_33 : decode cX4_point 33 = .ok (.goto 27, 3) := by decide +kernel
theorem dX4_point_36 : decode cX4_point 36 = .ok (.aload_n 0, 1) := by decide +kernel
theorem dX4_point_37 : decode cX4_point 37 = .ok (.getfield 33, 3) := by decide +kernel
theorem dX4_point_40 : decode cX4_point 40 = .ok (.sipush 432, 3) := by decide +kernel
theorem dX4_point_43 : decode cX4_point 43 = .ok (.aload_n 0, 1) := by decide +kernel
theorem dX4_point_44 : decode cX4_point 44 = .ok (.invokevirtual 164, 3) := by decide +kernel
theorem dX4_point_47 : decode cX4_point 47 = .ok (.imul, 1) := by decide +kernel
theorem dX4_point_48 : decode cX4_point 48 = .ok (.iconst 3, 1) := by decide +kernel
theorem dX4_point_49 : decode cX4_point 49 = .ok (.aload_n 0, 1) := by decide +kernel
theorem dX4_point_50 : decode cX4_point 50 = .ok (.iload_n 1, 1) := by decide +kernel
theorem dX4_point_51 : decode cX4_point 51 = .ok (.iload_n 2, 1) := by decide +kernel
theorem dX4_point_52 : decode cX4_point 52 = .ok (.invokevirtual 143, 3) := by decide +kernel
theorem dX4_point_55 : decode cX4_point 55 = .ok (.imul, 1) := by decide +kernel
theorem dX4_point_56 : decode cX4_point 56 = .ok (.iadd, 1) := by decide +kernel
theorem dX4_point_57 : decode cX4_point 57 = .ok (.iload_n 3, 1) := by decide +kernel
theorem dX4_point_58 : decode cX4_point 58 = .ok (.iadd, 1) := by decide +kernel
theorem dX4_point_59 : decode cX4_point 59 = .ok (.iaload, 1) := by decide +kernel
theorem dX4_point_60 : decode cX4_point 60 = .ok (.ireturn, 1) := by decide +kernel
theorem dX4_alpha_0 : decode cX4_alpha 0 = .ok (.aload_n 0, 1) := by decide +kernel
theorem dX4_alpha_1 : decode cX4_alpha 1 = .ok (.aload_n 0, 1) := by decide +kernel
theorem dX4_alpha_2 : decode cX4_alpha 2 = .ok (.iload_n 1, 1) := by decide +kernel
theorem dX4_alpha_3 : decode cX4_alpha 3 = .ok (.iload_n 2, 1) := by decide +kernel
theorem dX4_alpha_4 : decode cX4_alpha 4 = .ok (.invokevirtual 160, 3) := by decide +kernel
theorem dX4_alpha_7 : decode cX4_alpha 7 = .ok (.ifCond .ne 7, 3) := by decide +kernel
theorem dX4_alpha_10 : decode cX4_alpha 10 = .ok (.iconst 1, 1) := by decide +kernel
theorem dX4_alpha_11 : decode cX4_alpha 11 = .ok (.goto 17, 3) := by decide +kernel
theorem dX4_alpha_14 : decode cX4_alpha 14 = .ok (.iload_n 3, 1) := by decide +kernel
theorem dX4_alpha_15 : decode cX4_alpha 15 = .ok (.ifCond .lt 8, 3) := by decide +kernel
theorem dX4_alpha_18 : decode cX4_alpha 18 = .ok (.iload_n 3, 1) := by decide +kernel
theorem dX4_alpha_19 : decode cX4_alpha 19 = .ok (.iconst 4, 1) := by decide +kernel
theorem dX4_alpha_20 : decode cX4_alpha 20 = .ok (.if_icmp .le 7, 3) := by decide +kernel
theorem dX4_alpha_23 : decode cX4_alpha 23 = .ok (.iconst 2, 1) := by decide +kernel
theorem dX4_alpha_24 : decode cX4_alpha 24 = .ok (.goto 4, 3) := by decide +kernel
theorem dX4_alpha_27 : decode cX4_alpha 27 = .ok (.iconst 0, 1) := by decide +kernel
theorem dX4_alpha_28 : decode cX4_alpha 28 = .ok (.putfield 72, 3) := by decide +kernel
theorem dX4_alpha_31 : decode cX4_alpha 31 = .ok (.aload_n 0, 1) := by decide +kernel
theorem dX4_alpha_32 : decode cX4_alpha 32 = .ok (.getfield 72, 3) := by decide +kernel
theorem dX4_alpha_35 : decode cX4_alpha 35 = .ok (.ifCond .le 5, 3) := by decide +kernel
theorem dX4_alpha_38 : decode cX4_alpha 38 = .ok (.iconst 0, 1) := by decide +kernel
theorem dX4_alpha_39 : decode cX4_alpha 39 = .ok (.ireturn, 1) := by decide +kernel
theorem dX4_alpha_40 : decode cX4_alpha 40 = .ok (.aload_n 0, 1) := by decide +kernel
theorem dX4_alpha_41 : decode cX4_alpha 41 = .ok (.iload_n 1, 1) := by decide +kernel
theorem dX4_alpha_42 : decode cX4_alpha 42 = .ok (.iload_n 2, 1) := by decide +kernel
theorem dX4_alpha_43 : decode cX4_alpha 43 = .ok (.invokevirtual 143, 3) := by decide +kernel
theorem dX4_alpha_46 : decode cX4_alpha 46 = .ok (.istore 4, 2) := by decide +kernel
theorem dX4_alpha_48 : decode cX4_alpha 48 = .ok (.sipush 144, 3) := by decide +kernel
theorem dX4_alpha_51 : decode cX4_alpha 51 = .ok (.aload_n 0, 1) := by decide +kernel
theorem dX4_alpha_52 : decode cX4_alpha 52 = .ok (.invokevirtual 164, 3) := by decide +kernel
theorem dX4_alpha_55 : decode cX4_alpha 55 = .ok (.imul, 1) := by decide +kernel
theorem dX4_alpha_56 : decode cX4_alpha 56 = .ok (.iload 4, 2) := by decide +kernel
theorem dX4_alpha_58 : decode cX4_alpha 58 = .ok (.iadd, 1) := by decide +kernel
theorem dX4_alpha_59 : decode cX4_alpha 59 = .ok (.istore 5, 2) := by decide +kernel
theorem dX4_alpha_61 : decode cX4_alpha 61 = .ok (.iload_n 3, 1) := by decide +kernel
theorem dX4_alpha_62 : decode cX4_alpha 62 = .ok (.iconst 3, 1) := by decide +kernel
theorem dX4_alpha_63 : decode cX4_alpha 63 = .ok (.if_icmp .ge 43, 3) := by decide +kernel
theorem dX4_alpha_66 : decode cX4_alpha 66 = .ok (.iload_n 3, 1) := by decide +kernel
theorem dX4_alpha_67 : decode cX4_alpha 67 = .ok (.ifCond .ne 13, 3) := by decide +kernel
theorem dX4_alpha_70 : decode cX4_alpha 70 = .ok (.aload_n 0, 1) := by decide +kernel
theorem dX4_alpha_71 : decode cX4_alpha 71 = .ok (.getfield 36, 3) := by decide +kernel
theorem dX4_alpha_74 : decode cX4_alpha 74 = .ok (.iload 5, 2) := by decide +kernel
theorem dX4_alpha_76 : decode cX4_alpha 76 = .ok (.iaload, 1) := by decide +kernel
theorem dX4_alpha_77 : decode cX4_alpha 77 = .ok (.goto 28, 3) := by decide +kernel
theorem dX4_alpha_80 : decode cX4_alpha 80 = .ok (.iload_n 3, 1) := by decide +kernel
theorem dX4_alpha_81 : decode cX4_alpha 81 = .ok (.iconst 1, 1) := by decide +kernel
theorem dX4_alpha_82 : decode cX4_alpha 82 = .ok (.if_icmp .ne 13, 3) := by decide +kernel
theorem dX4_alpha_85 : decode cX4_alpha 85 = .ok (.aload_n 0, 1) := by decide +kernel
theorem dX4_alpha_86 : decode cX4_alpha 86 = .ok (.getfield 39, 3) := by decide +kernel
theorem dX4_alpha_89 : decode cX4_alpha 89 = .ok (.iload 5, 2) := by decide +kernel
theorem dX4_alpha_91 : decode cX4_alpha 91 = .ok (.iaload, 1) := by decide +kernel
theorem dX4_alpha_92 : decode cX4_alpha 92 = .ok (.goto 13, 3) := by decide +kernel
theorem dX4_alpha_95 : decode cX4_alpha 95 = .ok (.aload_n 0, 1) := by decide +kernel
theorem dX4_alpha_96 : decode cX4_alpha 96 = .ok (.aload_n 0, 1) := by decide +kernel
theorem dX4_alpha_97 : decode cX4_alpha 97 = .ok (.invokevirtual 164, 3) := by decide +kernel
theorem dX4_alpha_100 : decode cX4_alpha 100 = .ok (.iload 4, 2) := by decide +kernel
theorem dX4_alpha_102 : decode cX4_alpha 102 = .ok (.invokevirtual 126, 3) := by decide +kernel
theorem dX4_alpha_105 : decode cX4_alpha 105 = .ok (.ireturn, 1) := by decide +kernel
theorem dX4_alpha_106 : decode cX4_alpha 106 = .ok (.iload_n 3, 1) := by decide +kernel
theorem dX4_alpha_107 : decode cX4_alpha 107 = .ok (.iconst 4, 1) := by decide +kernel
theorem dX4_alpha_108 : decode cX4_alpha 108 = .ok (.if_icmp .ne 13, 3) := by decide +kernel
theorem dX4_alpha_111 : decode cX4_alpha 111 = .ok (.aload_n 0, 1) := by decide +kernel
theorem dX4_alpha_112 : decode cX4_alpha 112 = .ok (.getfield 45, 3) := by decide +kernel
theorem dX4_alpha_115 : decode cX4_alpha 115 = .ok (.iload 4, 2) := by decide +kernel
theorem dX4_alpha_117 : decode cX4_alpha 117 = .ok (.iaload, 1) := by decide +kernel
theorem dX4_alpha_118 : decode cX4_alpha 118 = .ok (.goto 23, 3) := by decide +kernel
theorem dX4_alpha_121 : decode cX4_alpha 121 = .ok (.aload_n 0, 1) := by decide +kernel
theorem dX4_alpha_122 : decode cX4_alpha 122 = .ok (.getfield 122, 3) := by decide +kernel
theorem dX4_alpha_125 : decode cX4_alpha 125 = .ok (.ifCond .eq 13, 3) := by decide +kernel
theorem dX4_alpha_128 : decode cX4_alpha 128 = .ok (.aload_n 0, 1) := by decide +kernel
theorem dX4_alpha_129 : decode cX4_alpha 129 = .ok (.getfield 42, 3) := by decide +kernel
theorem dX4_alpha_132 : decode cX4_alpha 132 = .ok (.iload 4, 2) := by decide +kernel
theorem dX4_alpha_134 : decode cX4_alpha 134 = .ok (.iaload, 1) := by decide +kernel
theorem dX4_alpha_135 : decode cX4_alpha 135 = .ok (.goto 6, 3) := by decide +kernel
theorem dX4_alpha_138 : decode cX4_alpha 138 = .ok (.sipush 255, 3) := by decide +kernel
theorem dX4_alpha_141 : decode cX4_alpha 141 = .ok (.ireturn, 1) := by decide +kernel
theorem dX4_paper_0 : decode cX4_paper 0 = .ok (.aload_n 0, 1) := by decide +kernel
theorem dX4_paper_1 : decode cX4_paper 1 = .ok (.aload_n 0, 1) := by decide +kernel
theorem dX4_paper_2 : decode cX4_paper 2 = .ok (.iload_n 1, 1) := by decide +kernel
theorem dX4_paper_3 : decode cX4_paper 3 = .ok (.iload_n 2, 1) := by decide +kernel
theorem dX4_paper_4 : decode cX4_paper 4 = .ok (.invokevirtual 160, 3) := by decide +kernel
theorem dX4_paper_7 : decode cX4_paper 7 = .ok (.ifCond .eq 14, 3) := by decide +kernel
theorem dX4_paper_10 : decode cX4_paper 10 = .ok (.iload_n 3, 1) := by decide +kernel
theorem dX4_paper_11 : decode cX4_paper 11 = .ok (.invokestatic 157, 3) := by decide +kernel
theorem dX4_paper_14 : decode cX4_paper 14 = .ok (.ifCond .eq 7, 3) := by decide +kernel
theorem dX4_paper_17 : decode cX4_paper 17 = .ok (.iconst 0, 1) := by decide +kernel
theorem dX4_paper_18 : decode cX4_paper 18 = .ok (.goto 4, 3) := by decide +kernel
theorem dX4_paper_21 : decode cX4_paper 21 = .ok (.iconst 1, 1) := by decide +kernel
theorem dX4_paper_22 : decode cX4_paper 22 = .ok (.putfield 72, 3) := by decide +kernel
theorem dX4_paper_25 : decode cX4_paper 25 = .ok (.aload_n 0, 1) := by decide +kernel
theorem dX4_paper_26 : decode cX4_paper 26 = .ok (.getfield 72, 3) := by decide +kernel
theorem dX4_paper_29 : decode cX4_paper 29 = .ok (.ifCond .le 5, 3) := by decide +kernel
theorem dX4_paper_32 : decode cX4_paper 32 = .ok (.iconst 0, 1) := by decide +kernel
theorem dX4_paper_33 : decode cX4_paper 33 = .ok (.ireturn, 1) := by decide +kernel
theorem dX4_paper_34 : decode cX4_paper 34 = .ok (.aload_n 0, 1) := by decide +kernel
theorem dX4_paper_35 : decode cX4_paper 35 = .ok (.aload_n 0, 1) := by decide +kernel
theorem dX4_paper_36 : decode cX4_paper 36 = .ok (.invokevirtual 164, 3) := by decide +kernel
theorem dX4_paper_39 : decode cX4_paper 39 = .ok (.aload_n 0, 1) := by decide +kernel
theorem dX4_paper_40 : decode cX4_paper 40 = .ok (.iload_n 1, 1) := by decide +kernel
theorem dX4_paper_41 : decode cX4_paper 41 = .ok (.iload_n 2, 1) := by decide +kernel
theorem dX4_paper_42 : decode cX4_paper 42 = .ok (.invokevirtual 143, 3) := by decide +kernel
theorem dX4_paper_45 : decode cX4_paper 45 = .ok (.invokevirtual 126, 3) := by decide +kernel
theorem dX4_paper_48 : decode cX4_paper 48 = .ok (.istore 4, 2) := by decide +kernel
theorem dX4_paper_50 : decode cX4_paper 50 = .ok (.aload_n 0, 1) := by decide +kernel
theorem dX4_paper_51 : decode cX4_paper 51 = .ok (.getfield 33, 3) := by decide +kernel
theorem dX4_paper_54 : decode cX4_paper 54 = .ok (.sipush 432, 3) := by decide +kernel
theorem dX4_paper_57 : decode cX4_paper 57 = .ok (.aload_n 0, 1) := by decide +kernel
theorem dX4_paper_58 : decode cX4_paper 58 = .ok (.invokevirtual 164, 3) := by decide +kernel
theorem dX4_paper_61 : decode cX4_paper 61 = .ok (.imul, 1) := by decide +kernel
theorem dX4_paper_62 : decode cX4_paper 62 = .ok (.iconst 3, 1) := by decide +kernel
theorem dX4_paper_63 : decode cX4_paper 63 = .ok (.aload_n 0, 1) := by decide +kernel
theorem dX4_paper_64 : decode cX4_paper 64 = .ok (.iload_n 1, 1) := by decide +kernel
theorem dX4_paper_65 : decode cX4_paper 65 = .ok (.iload_n 2, 1) := by decide +kernel
theorem dX4_paper_66 : decode cX4_paper 66 = .ok (.invokevirtual 143, 3) := by decide +kernel
theorem dX4_paper_69 : decode cX4_paper 69 = .ok (.imul, 1) := by decide +kernel
theorem dX4_paper_70 : decode cX4_paper 70 = .ok (.iadd, 1) := by decide +kernel
theorem dX4_paper_71 : decode cX4_paper 71 = .ok (.iload_n 3, 1) := by decide +kernel
theorem dX4_paper_72 : decode cX4_paper 72 = .ok (.iadd, 1) := by decide +kernel
theorem dX4_paper_73 : decode cX4_paper 73 = .ok (.iaload, 1) := by decide +kernel
theorem dX4_paper_74 : decode cX4_paper 74 = .ok (.iload 4, 2) := by decide +kernel
theorem dX4_paper_76 : decode cX4_paper 76 = .ok (.invokestatic 75, 3) := by decide +kernel
theorem dX4_paper_79 : decode cX4_paper 79 = .ok (.sipush 255, 3) := by decide +kernel
theorem dX4_paper_82 : decode cX4_paper 82 = .ok (.iadd, 1) := by decide +kernel
theorem dX4_paper_83 : decode cX4_paper 83 = .ok (.iload 4, 2) := by decide +kernel
theorem dX4_paper_85 : decode cX4_paper 85 = .ok (.isub, 1) := by decide +kernel
theorem dX4_paper_86 : decode cX4_paper 86 = .ok (.ireturn, 1) := by decide +kernel
theorem dX4_separable_0 : decode cX4_separable 0 = .ok (.aload_n 0, 1) := by decide +kernel
theorem dX4_separable_1 : decode cX4_separable 1 = .ok (.iload_n 1, 1) := by decide +kernel
theorem dX4_separable_2 : decode cX4_separable 2 = .ok (.ifCond .lt 23, 3) := by decide +kernel
theorem dX4_separable_5 : decode cX4_separable 5 = .ok (.iload_n 1, 1) := by decide +kernel
theorem dX4_separable_6 : decode cX4_separable 6 = .ok (.bipush 11, 2) := by decide +kernel
theorem dX4_separable_8 : decode cX4_separable 8 = .ok (.if_icmp .gt 17, 3) := by decide +kernel
theorem dX4_separable_11 : decode cX4_separable 11 = .ok (.iload_n 2, 1) := by decide +kernel
theorem dX4_separable_12 : decode cX4_separable 12 = .ok (.invokestatic 135, 3) := by decide +kernel
theorem dX4_separable_15 : decode cX4_separable 15 = .ok (.ifCond .eq 10, 3) := by decide +kernel
theorem dX4_separable_18 : decode cX4_separable 18 = .ok (.iload_n 3, 1) := by decide +kernel
theorem dX4_separable_19 : decode cX4_separable 19 = .ok (.invokestatic 135, 3) := by decide +kernel
theorem dX4_separable_22 : decode cX4_separable 22 = .ok (.ifCond .ne 7, 3) := by decide +kernel
theorem dX4_separable_25 : decode cX4_separable 25 = .ok (.iconst 1, 1) := by decide +kernel
theorem dX4_separable_26 : decode cX4_separable 26 = .ok (.goto 4, 3) := by decide +kernel
theorem dX4_separable_29 : decode cX4_separable 29 = .ok (.iconst 0, 1) := by decide +kernel
theorem dX4_separable_30 : decode cX4_separable 30 = .ok (.putfield 72, 3) := by decide +kernel
theorem dX4_separable_33 : decode cX4_separable 33 = .ok (.aload_n 0, 1) := by decide +kernel
theorem dX4_separable_34 : decode cX4_separable 34 = .ok (.getfield 72, 3) := by decide +kernel
theorem dX4_separable_37 : decode cX4_separable 37 = .ok (.ifCond .le 7, 3) := by decide +kernel
theorem dX4_separable_40 : decode cX4_separable 40 = .ok (.iconst 0, 1) := by decide +kernel
theorem dX4_separable_41 : decode cX4_separable 41 = .ok (.goto 9, 3) := by decide +kernel
theorem dX4_separable_44 : decode cX4_separable 44 = .ok (.iload_n 1, 1) := by decide +kernel
theorem dX4_separable_45 : decode cX4_separable 45 = .ok (.iload_n 2, 1) := by decide +kernel
theorem dX4_separable_46 : decode cX4_separable 46 = .ok (.iload_n 3, 1) := by decide +kernel
theorem dX4_separable_47 : decode cX4_separable 47 = .ok (.invokestatic 107, 3) := by decide +kernel
theorem dX4_separable_50 : decode cX4_separable 50 = .ok (.ireturn, 1) := by decide +kernel
theorem dX4_blend_0 : decode cX4_blend 0 = .ok (.iload_n 1, 1) := by decide +kernel
theorem dX4_blend_1 : decode cX4_blend 1 = .ok (.ifCond .lt 33, 3) := by decide +kernel
theorem dX4_blend_4 : decode cX4_blend 4 = .ok (.iload_n 1, 1) := by decide +kernel
theorem dX4_blend_5 : decode cX4_blend 5 = .ok (.bipush 15, 2) := by decide +kernel
theorem dX4_blend_7 : decode cX4_blend 7 = .ok (.if_icmp .gt 27, 3) := by decide +kernel
theorem dX4_blend_10 : decode cX4_blend 10 = .ok (.iload_n 2, 1) := by decide +kernel
theorem dX4_blend_11 : decode cX4_blend 11 = .ok (.ifCond .lt 23, 3) := by decide +kernel
theorem dX4_blend_14 : decode cX4_blend 14 = .ok (.iload_n 2, 1) := by decide +kernel
theorem dX4_blend_15 : decode cX4_blend 15 = .ok (.ldc 167, 2) := by decide +kernel
theorem dX4_blend_17 : decode cX4_blend 17 = .ok (.if_icmp .gt 17, 3) := by decide +kernel
theorem dX4_blend_20 : decode cX4_blend 20 = .ok (.iload_n 3, 1) := by decide +kernel
theorem dX4_blend_21 : decode cX4_blend 21 = .ok (.ifCond .lt 13, 3) := by decide +kernel
theorem dX4_blend_24 : decode cX4_blend 24 = .ok (.iload_n 3, 1) := by decide +kernel
theorem dX4_blend_25 : decode cX4_blend 25 = .ok (.ldc 167, 2) := by decide +kernel
theorem dX4_blend_27 : decode cX4_blend 27 = .ok (.if_icmp .gt 7, 3) := by decide +kernel
theorem dX4_blend_30 : decode cX4_blend 30 = .ok (.iconst 1, 1) := by decide +kernel
theorem dX4_blend_31 : decode cX4_blend 31 = .ok (.goto 4, 3) := by decide +kernel
theorem dX4_blend_34 : decode cX4_blend 34 = .ok (.iconst 0, 1) := by decide +kernel
theorem dX4_blend_35 : decode cX4_blend 35 = .ok (.istore 4, 2) := by decide +kernel
theorem dX4_blend_37 : decode cX4_blend 37 = .ok (.aload_n 0, 1) := by decide +kernel
theorem dX4_blend_38 : decode cX4_blend 38 = .ok (.iload 4, 2) := by decide +kernel
theorem dX4_blend_40 : decode cX4_blend 40 = .ok (.ifCond .eq 7, 3) := by decide +kernel
theorem dX4_blend_43 : decode cX4_blend 43 = .ok (.iconst 0, 1) := by decide +kernel
theorem dX4_blend_44 : decode cX4_blend 44 = .ok (.goto 4, 3) := by decide +kernel
theorem dX4_blend_47 : decode cX4_blend 47 = .ok (.iconst 1, 1) := by decide +kernel
theorem dX4_blend_48 : decode cX4_blend 48 = .ok (.putfield 72, 3) := by decide +kernel
theorem dX4_blend_51 : decode cX4_blend 51 = .ok (.aload_n 0, 1) := by decide +kernel
theorem dX4_blend_52 : decode cX4_blend 52 = .ok (.getfield 72, 3) := by decide +kernel
theorem dX4_blend_55 : decode cX4_blend 55 = .ok (.ifCond .le 5, 3) := by decide +kernel
theorem dX4_blend_58 : decode cX4_blend 58 = .ok (.iconst 0, 1) := by decide +kernel
theorem dX4_blend_59 : decode cX4_blend 59 = .ok (.ireturn, 1) := by decide +kernel
theorem dX4_blend_60 : decode cX4_blend 60 = .ok (.iconst 0, 1) := by decide +kernel
theorem dX4_blend_61 : decode cX4_blend 61 = .ok (.istore 5, 2) := by decide +kernel
theorem dX4_blend_63 : decode cX4_blend 63 = .ok (.iload 5, 2) := by decide +kernel
theorem dX4_blend_65 : decode cX4_blend 65 = .ok (.iconst 3, 1) := by decide +kernel
theorem dX4_blend_66 : decode cX4_blend 66 = .ok (.if_icmp .ge 45, 3) := by decide +kernel
theorem dX4_blend_69 : decode cX4_blend 69 = .ok (.aload_n 0, 1) := by decide +kernel
theorem dX4_blend_70 : decode cX4_blend 70 = .ok (.getfield 57, 3) := by decide +kernel
theorem dX4_blend_73 : decode cX4_blend 73 = .ok (.iload 5, 2) := by decide +kernel
theorem dX4_blend_75 : decode cX4_blend 75 = .ok (.iload_n 2, 1) := by decide +kernel
theorem dX4_blend_76 : decode cX4_blend 76 = .ok (.bipush 8, 2) := by decide +kernel
theorem dX4_blend_78 : decode cX4_blend 78 = .ok (.iload 5, 2) := by decide +kernel
theorem dX4_blend_80 : decode cX4_blend 80 = .ok (.imul, 1) := by decide +kernel
theorem dX4_blend_81 : decode cX4_blend 81 = .ok (.ishr, 1) := by decide +kernel
theorem dX4_blend_82 : decode cX4_blend 82 = .ok (.sipush 255, 3) := by decide +kernel
theorem dX4_blend_85 : decode cX4_blend 85 = .ok (.iand, 1) := by decide +kernel
theorem dX4_blend_86 : decode cX4_blend 86 = .ok (.iastore, 1) := by decide +kernel
theorem dX4_blend_87 : decode cX4_blend 87 = .ok (.aload_n 0, 1) := by decide +kernel
theorem dX4_blend_88 : decode cX4_blend 88 = .ok (.getfield 54, 3) := by decide +kernel
theorem dX4_blend_91 : decode cX4_blend 91 = .ok (.iload 5, 2) := by decide +kernel
theorem dX4_blend_93 : decode cX4_blend 93 = .ok (.iload_n 3, 1) := by decide +kernel
theorem dX4_blend_94 : decode cX4_blend 94 = .ok (.bipush 8, 2) := by decide +kernel
theorem dX4_blend_96 : decode cX4_blend 96 = .ok (.iload 5, 2) := by decide +kernel
theorem dX4_blend_98 : decode cX4_blend 98 = .ok (.imul, 1) := by decide +kernel
theorem dX4_blend_99 : decode cX4_blend 99 = .ok (.ishr, 1) := by decide +kernel
theorem dX4_blend_100 : decode cX4_blend 100 = .ok (.sipush 255, 3) := by decide +kernel
theorem dX4_blend_103 : decode cX4_blend 103 = .ok (.iand, 1) := by decide +kernel
theorem dX4_blend_104 : decode cX4_blend 104 = .ok (.iastore, 1) := by decide +kernel
theorem dX4_blend_105 : decode cX4_blend 105 = .ok (.iinc 5 1, 3) := by decide +kernel
theorem dX4_blend_108 : decode cX4_blend 108 = .ok (.goto (-45), 3) := by decide +kernel
theorem dX4_blend_111 : decode cX4_blend 111 = .ok (.aload_n 0, 1) := by decide +kernel
theorem dX4_blend_112 : decode cX4_blend 112 = .ok (.iload_n 1, 1) := by decide +kernel
theorem dX4_blend_113 : decode cX4_blend 113 = .ok (.invokevirtual 129, 3) := by decide +kernel
theorem dX4_blend_116 : decode cX4_blend 116 = .ok (.aload_n 0, 1) := by decide +kernel
theorem dX4_blend_117 : decode cX4_blend 117 = .ok (.getfield 60, 3) := by decide +kernel
theorem dX4_blend_120 : decode cX4_blend 120 = .ok (.iconst 0, 1) := by decide +kernel
theorem dX4_blend_121 : decode cX4_blend 121 = .ok (.iaload, 1) := by decide +kernel
theorem dX4_blend_122 : decode cX4_blend 122 = .ok (.aload_n 0, 1) := by decide +kernel
theorem dX4_blend_123 : decode cX4_blend 123 = .ok (.getfield 60, 3) := by decide +kernel
theorem dX4_blend_126 : decode cX4_blend 126 = .ok (.iconst 1, 1) := by decide +kernel
theorem dX4_blend_127 : decode cX4_blend 127 = .ok (.iaload, 1) := by decide +kernel
theorem dX4_blend_128 : decode cX4_blend 128 = .ok (.bipush 8, 2) := by decide +kernel
theorem dX4_blend_130 : decode cX4_blend 130 = .ok (.ishl, 1) := by decide +kernel
theorem dX4_blend_131 : decode cX4_blend 131 = .ok (.ior, 1) := by decide +kernel
theorem dX4_blend_132 : decode cX4_blend 132 = .ok (.aload_n 0, 1) := by decide +kernel
theorem dX4_blend_133 : decode cX4_blend 133 = .ok (.getfield 60, 3) := by decide +kernel
theorem dX4_blend_136 : decode cX4_blend 136 = .ok (.iconst 2, 1) := by decide +kernel
theorem dX4_blend_137 : decode cX4_blend 137 = .ok (.iaload, 1) := by decide +kernel
theorem dX4_blend_138 : decode cX4_blend 138 = .ok (.bipush 16, 2) := by decide +kernel
theorem dX4_blend_140 : decode cX4_blend 140 = .ok (.ishl, 1) := by decide +kernel
theorem dX4_blend_141 : decode cX4_blend 141 = .ok (.ior, 1) := by decide +kernel
theorem dX4_blend_142 : decode cX4_blend 142 = .ok (.ireturn, 1) := by decide +kernel
