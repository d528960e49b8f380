theorem dX9_dropsFromLevels_71 : decode cX9_dropsFromLevels 71 = .ok (.iconst 0, 1) := by decide +kernel
theorem dX9_dropsFromLevels_72 : decode cX9_dropsFromLevels 72 = .ok (.istore 4, 2) := by decide +kernel
theorem dX9_dropsFromLevels_74 : decode cX9_dropsFromLevels 74 = .ok (.iconst 0, 1) := by decide +kernel
theorem dX9_dropsFromLevels_75 : decode cX9_dropsFromLevels 75 = .ok (.istore 5, 2) := by decide +kernel
theorem dX9_dropsFromLevels_77 : decode cX9_dropsFromLevels 77 = .ok (.iload 5, 2) := by decide +kernel
theorem dX9_dropsFromLevels_79 : decode cX9_dropsFromLevels 79 = .ok (.iload_n 3, 1) := by decide +kernel
theorem dX9_dropsFromLevels_80 : decode cX9_dropsFromLevels 80 = .ok (.if_icmp .ge 57, 3) := by decide +kernel
theorem dX9_dropsFromLevels_83 : decode cX9_dropsFromLevels 83 = .ok (.aload_n 0, 1) := by decide +kernel
theorem dX9_dropsFromLevels_84 : decode cX9_dropsFromLevels 84 = .ok (.aload_n 0, 1) := by decide +kernel
theorem dX9_dropsFromLevels_85 : decode cX9_dropsFromLevels 85 = .ok (.getfield 32, 3) := by decide +kernel
theorem dX9_dropsFromLevels_88 : decode cX9_dropsFromLevels 88 = .ok (.iload 5, 2) := by decide +kernel
theorem dX9_dropsFromLevels_90 : decode cX9_dropsFromLevels 90 = .ok (.iload_n 2, 1) := by decide +kernel
theorem dX9_dropsFromLevels_91 : decode cX9_dropsFromLevels 91 = .ok (.invokevirtual 367, 3) := by decide +kernel
theorem dX9_dropsFromLevels_94 : decode cX9_dropsFromLevels 94 = .ok (.invokevirtual 380, 3) := by decide +kernel
theorem dX9_dropsFromLevels_97 : decode cX9_dropsFromLevels 97 = .ok (.istore 6, 2) := by decide +kernel
theorem dX9_dropsFromLevels_99 : decode cX9_dropsFromLevels 99 = .ok (.iload 6, 2) := by decide +kernel
theorem dX9_dropsFromLevels_101 : decode cX9_dropsFromLevels 101 = .ok (.iconst (-1), 1) := by decide +kernel
theorem dX9_dropsFromLevels_102 : decode cX9_dropsFromLevels 102 = .ok (.if_icmp .ne 9, 3) := by decide +kernel
theorem dX9_dropsFromLevels_105 : decode cX9_dropsFromLevels 105 = .ok (.iinc 4 1, 3) := by decide +kernel
theorem dX9_dropsFromLevels_108 : decode cX9_dropsFromLevels 108 = .ok (.goto 23, 3) := by decide +kernel
theorem dX9_dropsFromLevels_111 : decode cX9_dropsFromLevels 111 = .ok (.aload_n 0, 1) := by decide +kernel
theorem dX9_dropsFromLevels_112 : decode cX9_dropsFromLevels 112 = .ok (.getfield 43, 3) := by decide +kernel
theorem dX9_dropsFromLevels_115 : decode cX9_dropsFromLevels 115 = .ok (.iload 6, 2) := by decide +kernel
theorem dX9_dropsFromLevels_117 : decode cX9_dropsFromLevels 117 = .ok (.aload_n 0, 1) := by decide +kernel
theorem dX9_dropsFromLevels_118 : decode cX9_dropsFromLevels 118 = .ok (.getfield 43, 3) := by decide +kernel
theorem dX9_dropsFromLevels_121 : decode cX9_dropsFromLevels 121 = .ok (.iload 6, 2) := by decide +kernel
theorem dX9_dropsFromLevels_123 : decode cX9_dropsFromLevels 123 = .ok (.invokestatic 383, 3) := by decide +kernel
theorem dX9_dropsFromLevels_126 : decode cX9_dropsFromLevels 126 = .ok (.iconst 1, 1) := by decide +kernel
theorem dX9_dropsFromLevels_127 : decode cX9_dropsFromLevels 127 = .ok (.isub, 1) := by decide +kernel
theorem dX9_dropsFromLevels_128 : decode cX9_dropsFromLevels 128 = .ok (.invokestatic 376, 3) := by decide +kernel
theorem dX9_dropsFromLevels_131 : decode cX9_dropsFromLevels 131 = .ok (.iinc 5 1, 3) := by decide +kernel
theorem dX9_dropsFromLevels_134 : decode cX9_dropsFromLevels 134 = .ok (.goto (-57), 3) := by decide +kernel
theorem dX9_dropsFromLevels_137 : decode cX9_dropsFromLevels 137 = .ok (.iload 4, 2) := by decide +kernel
theorem dX9_dropsFromLevels_139 : decode cX9_dropsFromLevels 139 = .ok (.ireturn, 1) := by decide +kernel
theorem dX9_roomiestFor_0 : decode cX9_roomiestFor 0 = .ok (.iconst (-1), 1) := by decide +kernel
theorem dX9_roomiestFor_1 : decode cX9_roomiestFor 1 = .ok (.istore_n 2, 1) := by decide +kernel
theorem dX9_roomiestFor_2 : decode cX9_roomiestFor 2 = .ok (.iconst 0, 1) := by decide +kernel
theorem dX9_roomiestFor_3 : decode cX9_roomiestFor 3 = .ok (.istore_n 3, 1) := by decide +kernel
theorem dX9_roomiestFor_4 : decode cX9_roomiestFor 4 = .ok (.iconst 0, 1) := by decide +kernel
theorem dX9_roomiestFor_5 : decode cX9_roomiestFor 5 = .ok (.istore 4, 2) := by decide +kernel
theorem dX9_roomiestFor_7 : decode cX9_roomiestFor 7 = .ok (.iload 4, 2) := by decide +kernel
theorem dX9_roomiestFor_9 : decode cX9_roomiestFor 9 = .ok (.aload_n 0, 1) := by decide +kernel
theorem dX9_roomiestFor_10 : decode cX9_roomiestFor 10 = .ok (.getfield 10, 3) := by decide +kernel
theorem dX9_roomiestFor_13 : decode cX9_roomiestFor 13 = .ok (.getfield 193, 3) := by decide +kernel
theorem dX9_roomiestFor_16 : decode cX9_roomiestFor 16 = .ok (.getfield 218, 3) := by decide +kernel
theorem dX9_roomiestFor_19 : decode cX9_roomiestFor 19 = .ok (.if_icmp .ge 51, 3) := by decide +kernel
theorem dX9_roomiestFor_22 : decode cX9_roomiestFor 22 = .ok (.iload_n 1, 1) := by decide +kernel
theorem dX9_roomiestFor_23 : decode cX9_roomiestFor 23 = .ok (.aload_n 0, 1) := by decide +kernel
theorem dX9_roomiestFor_24 : decode cX9_roomiestFor 24 = .ok (.getfield 10, 3) := by decide +kernel
theorem dX9_roomiestFor_27 : decode cX9_roomiestFor 27 = .ok (.getfield 193, 3) := by decide +kernel
theorem dX9_roomiestFor_30 : decode cX9_roomiestFor 30 = .ok (.iload 4, 2) := by decide +kernel
theorem dX9_roomiestFor_32 : decode cX9_roomiestFor 32 = .ok (.invokevirtual 225, 3) := by decide +kernel
theorem dX9_roomiestFor_35 : decode cX9_roomiestFor 35 = .ok (.if_icmp .gt 29, 3) := by decide +kernel
theorem dX9_roomiestFor_38 : decode cX9_roomiestFor 38 = .ok (.aload_n 0, 1) := by decide +kernel
theorem dX9_roomiestFor_39 : decode cX9_roomiestFor 39 = .ok (.getfield 43, 3) := by decide +kernel
theorem dX9_roomiestFor_42 : decode cX9_roomiestFor 42 = .ok (.iload 4, 2) := by decide +kernel
theorem dX9_roomiestFor_44 : decode cX9_roomiestFor 44 = .ok (.invokestatic 383, 3) := by decide +kernel
theorem dX9_roomiestFor_47 : decode cX9_roomiestFor 47 = .ok (.iload_n 3, 1) := by decide +kernel
theorem dX9_roomiestFor_48 : decode cX9_roomiestFor 48 = .ok (.if_icmp .le 16, 3) := by decide +kernel
theorem dX9_roomiestFor_51 : decode cX9_roomiestFor 51 = .ok (.iload 4, 2) := by decide +kernel
theorem dX9_roomiestFor_53 : decode cX9_roomiestFor 53 = .ok (.istore_n 2, 1) := by decide +kernel
theorem dX9_roomiestFor_54 : decode cX9_roomiestFor 54 = .ok (.aload_n 0, 1) := by decide +kernel
theorem dX9_roomiestFor_55 : decode cX9_roomiestFor 55 = .ok (.getfield 43, 3) := by decide +kernel
theorem dX9_roomiestFor_58 : decode cX9_roomiestFor 58 = .ok (.iload 4, 2) := by decide +kernel
theorem dX9_roomiestFor_60 : decode cX9_roomiestFor 60 = .ok (.invokestatic 383, 3) := by decide +kernel
theorem dX9_roomiestFor_63 : decode cX9_roomiestFor 63 = .ok (.istore_n 3, 1) := by decide +kernel
theorem dX9_roomiestFor_64 : decode cX9_roomiestFor 64 = .ok (.iinc 4 1, 3) := by decide +kernel
theorem dX9_roomiestFor_67 : decode cX9_roomiestFor 67 = .ok (.goto (-60), 3) := by decide +kernel
theorem dX9_roomiestFor_70 : decode cX9_roomiestFor 70 = .ok (.iload_n 2, 1) := by decide +kernel
theorem dX9_roomiestFor_71 : decode cX9_roomiestFor 71 = .ok (.ireturn, 1) := by decide +kernel
theorem dX9_faultOfCommand_0 : decode cX9_faultOfCommand 0 = .ok (.aload_n 0, 1) := by decide +kernel
theorem dX9_faultOfCommand_1 : decode cX9_faultOfCommand 1 = .ok (.getfield 50, 3) := by decide +kernel
theorem dX9_faultOfCommand_4 : decode cX9_faultOfCommand 4 = .ok (.iload_n 2, 1) := by decide +kernel
theorem dX9_faultOfCommand_5 : decode cX9_faultOfCommand 5 = .ok (.iconst 0, 1) := by decide +kernel
theorem dX9_faultOfCommand_6 : decode cX9_faultOfCommand 6 = .ok (.invokevirtual 387, 3) := by decide +kernel
theorem dX9_faultOfCommand_9 : decode cX9_faultOfCommand 9 = .ok (.istore_n 3, 1) := by decide +kernel
theorem dX9_faultOfCommand_10 : decode cX9_faultOfCommand 10 = .ok (.aload_n 0, 1) := by decide +kernel
theorem dX9_faultOfCommand_11 : decode cX9_faultOfCommand 11 = .ok (.getfield 50, 3) := by decide +kernel
theorem dX9_faultOfCommand_14 : decode cX9_faultOfCommand 14 = .ok (.iload_n 2, 1) := by decide +kernel
theorem dX9_faultOfCommand_15 : decode cX9_faultOfCommand 15 = .ok (.iconst 1, 1) := by decide +kernel
theorem dX9_faultOfCommand_16 : decode cX9_faultOfCommand 16 = .ok (.invokevirtual 387, 3) := by decide +kernel
theorem dX9_faultOfCommand_19 : decode cX9_faultOfCommand 19 = .ok (.istore 4, 2) := by decide +kernel
theorem dX9_faultOfCommand_21 : decode cX9_faultOfCommand 21 = .ok (.aload_n 0, 1) := by decide +kernel
theorem dX9_faultOfCommand_22 : decode cX9_faultOfCommand 22 = .ok (.getfield 50, 3) := by decide +kernel
theorem dX9_faultOfCommand_25 : decode cX9_faultOfCommand 25 = .ok (.iload_n 2, 1) := by decide +kernel
theorem dX9_faultOfCommand_26 : decode cX9_faultOfCommand 26 = .ok (.invokevirtual 390, 3) := by decide +kernel
theorem dX9_faultOfCommand_29 : decode cX9_faultOfCommand 29 = .ok (.tableswitch 165 68 85 #[154, 165, 165, 165, 165, 165, 165, 165, 165, 165, 96, 165, 145, 165, 87, 165, 125, 134], 87) := by decide +kernel
theorem dX9_faultOfCommand_116 : decode cX9_faultOfCommand 116 = .ok (.aload_n 1, 1) := by decide +kernel
theorem dX9_faultOfCommand_117 : decode cX9_faultOfCommand 117 = .ok (.getfield 72, 3) := by decide +kernel
theorem dX9_faultOfCommand_120 : decode cX9_faultOfCommand 120 = .ok (.iload_n 3, 1) := by decide +kernel
theorem dX9_faultOfCommand_121 : decode cX9_faultOfCommand 121 = .ok (.invokevirtual 101, 3) := by decide +kernel
theorem dX9_faultOfCommand_124 : decode cX9_faultOfCommand 124 = .ok (.ireturn, 1) := by decide +kernel
theorem dX9_faultOfCommand_125 : decode cX9_faultOfCommand 125 = .ok (.aload_n 1, 1) := by decide +kernel
theorem dX9_faultOfCommand_126 : decode cX9_faultOfCommand 126 = .ok (.getfield 122, 3) := by decide +kernel
theorem dX9_faultOfCommand_129 : decode cX9_faultOfCommand 129 = .ok (.iload_n 3, 1) := by decide +kernel
theorem dX9_faultOfCommand_130 : decode cX9_faultOfCommand 130 = .ok (.iload 4, 2) := by decide +kernel
theorem dX9_faultOfCommand_132 : decode cX9_faultOfCommand 132 = .ok (.aload_n 0, 1) := by decide +kernel
theorem dX9_faultOfCommand_133 : decode cX9_faultOfCommand 133 = .ok (.getfield 50, 3) := by decide +kernel
theorem dX9_faultOfCommand_136 : decode cX9_faultOfCommand 136 = .ok (.iload_n 2, 1) := by decide +kernel
theorem dX9_faultOfCommand_137 : decode cX9_faultOfCommand 137 = .ok (.iconst 2, 1) := by decide +kernel
theorem dX9_faultOfCommand_138 : decode cX9_faultOfCommand 138 = .ok (.invokevirtual 387, 3) := by decide +kernel
theorem dX9_faultOfCommand_141 : decode cX9_faultOfCommand 141 = .ok (.aload_n 0, 1) := by decide +kernel
theorem dX9_faultOfCommand_142 : decode cX9_faultOfCommand 142 = .ok (.getfield 50, 3) := by decide +kernel
theorem dX9_faultOfCommand_145 : decode cX9_faultOfCommand 145 = .ok (.iload_n 2, 1) := by decide +kernel
theorem dX9_faultOfCommand_146 : decode cX9_faultOfCommand 146 = .ok (.iconst 3, 1) := by decide +kernel
theorem dX9_faultOfCommand_147 : decode cX9_faultOfCommand 147 = .ok (.invokevirtual 387, 3) := by decide +kernel
theorem dX9_faultOfCommand_150 : decode cX9_faultOfCommand 150 = .ok (.invokevirtual 126, 3) := by decide +kernel
theorem dX9_faultOfCommand_153 : decode cX9_faultOfCommand 153 = .ok (.ireturn, 1) := by decide +kernel
theorem dX9_faultOfCommand_154 : decode cX9_faultOfCommand 154 = .ok (.aload_n 1, 1) := by decide +kernel
theorem dX9_faultOfCommand_155 : decode cX9_faultOfCommand 155 = .ok (.getfield 193, 3) := by decide +kernel
theorem dX9_faultOfCommand_158 : decode cX9_faultOfCommand 158 = .ok (.iload_n 3, 1) := by decide +kernel
theorem dX9_faultOfCommand_159 : decode cX9_faultOfCommand 159 = .ok (.invokevirtual 196, 3) := by decide +kernel
theorem dX9_faultOfCommand_162 : decode cX9_faultOfCommand 162 = .ok (.ireturn, 1) := by decide +kernel
theorem dX9_faultOfCommand_163 : decode cX9_faultOfCommand 163 = .ok (.aload_n 1, 1) := by decide +kernel
theorem dX9_faultOfCommand_164 : decode cX9_faultOfCommand 164 = .ok (.getfield 193, 3) := by decide +kernel
theorem dX9_faultOfCommand_167 : decode cX9_faultOfCommand 167 = .ok (.iload_n 3, 1) := by decide +kernel
theorem dX9_faultOfCommand_168 : decode cX9_faultOfCommand 168 = .ok (.iload 4, 2) := by decide +kernel
theorem dX9_faultOfCommand_170 : decode cX9_faultOfCommand 170 = .ok (.invokevirtual 202, 3) := by decide +kernel
theorem dX9_faultOfCommand_173 : decode cX9_faultOfCommand 173 = .ok (.ireturn, 1) := by decide +kernel
theorem dX9_faultOfCommand_174 : decode cX9_faultOfCommand 174 = .ok (.aload_n 1, 1) := by decide +kernel
theorem dX9_faultOfCommand_175 : decode cX9_faultOfCommand 175 = .ok (.getfield 122, 3) := by decide +kernel
theorem dX9_faultOfCommand_178 : decode cX9_faultOfCommand 178 = .ok (.iload_n 3, 1) := by decide +kernel
theorem dX9_faultOfCommand_179 : decode cX9_faultOfCommand 179 = .ok (.invokevirtual 135, 3) := by decide +kernel
theorem dX9_faultOfCommand_182 : decode cX9_faultOfCommand 182 = .ok (.ireturn, 1) := by decide +kernel
theorem dX9_faultOfCommand_183 : decode cX9_faultOfCommand 183 = .ok (.aload_n 1, 1) := by decide +kernel
theorem dX9_faultOfCommand_184 : decode cX9_faultOfCommand 184 = .ok (.getfield 193, 3) := by decide +kernel
theorem dX9_faultOfCommand_187 : decode cX9_faultOfCommand 187 = .ok (.iload_n 3, 1) := by decide +kernel
theorem dX9_faultOfCommand_188 : decode cX9_faultOfCommand 188 = .ok (.iload 4, 2) := by decide +kernel
theorem dX9_faultOfCommand_190 : decode cX9_faultOfCommand 190 = .ok (.invokevirtual 212, 3) := by decide +kernel
theorem dX9_faultOfCommand_193 : decode cX9_faultOfCommand 193 = .ok (.ireturn, 1) := by decide +kernel
theorem dX9_faultOfCommand_194 : decode cX9_faultOfCommand 194 = .ok (.aload_n 1, 1) := by decide +kernel
theorem dX9_faultOfCommand_195 : decode cX9_faultOfCommand 195 = .ok (.getfield 72, 3) := by decide +kernel
theorem dX9_faultOfCommand_198 : decode cX9_faultOfCommand 198 = .ok (.aload_n 0, 1) := by decide +kernel
theorem dX9_faultOfCommand_199 : decode cX9_faultOfCommand 199 = .ok (.getfield 50, 3) := by decide +kernel
theorem dX9_faultOfCommand_202 : decode cX9_faultOfCommand 202 = .ok (.iload_n 2, 1) := by decide +kernel
theorem dX9_faultOfCommand_203 : decode cX9_faultOfCommand 203 = .ok (.invokevirtual 390, 3) := by decide +kernel
theorem dX9_faultOfCommand_206 : decode cX9_faultOfCommand 206 = .ok (.iload_n 3, 1) := by decide +kernel
theorem dX9_faultOfCommand_207 : decode cX9_faultOfCommand 207 = .ok (.invokevirtual 76, 3) := by decide +kernel
theorem dX9_faultOfCommand_210 : decode cX9_faultOfCommand 210 = .ok (.ireturn, 1) := by decide +kernel
theorem dX9_carryOut_0 : decode cX9_carryOut 0 = .ok (.aload_n 0, 1) := by decide +kernel
theorem dX9_carryOut_1 : decode cX9_carryOut 1 = .ok (.getfield 50, 3) := by decide +kernel
theorem dX9_carryOut_4 : decode cX9_carryOut 4 = .ok (.iload_n 2, 1) := by decide +kernel
theorem dX9_carryOut_5 : decode cX9_carryOut 5 = .ok (.iconst 0, 1) := by decide +kernel
theorem dX9_carryOut_6 : decode cX9_carryOut 6 = .ok (.invokevirtual 387, 3) := by decide +kernel
theorem dX9_carryOut_9 : decode cX9_carryOut 9 = .ok (.istore_n 3, 1) := by decide +kernel
theorem dX9_carryOut_10 : decode cX9_carryOut 10 = .ok (.aload_n 0, 1) := by decide +kernel
theorem dX9_carryOut_11 : decode cX9_carryOut 11 = .ok (.getfield 50, 3) := by decide +kernel
theorem dX9_carryOut_14 : decode cX9_carryOut 14 = .ok (.iload_n 2, 1) := by decide +kernel
theorem dX9_carryOut_15 : decode cX9_carryOut 15 = .ok (.iconst 1, 1) := by decide +kernel
theorem dX9_carryOut_16 : decode cX9_carryOut 16 = .ok (.invokevirtual 387, 3) := by decide +kernel
theorem dX9_carryOut_19 : decode cX9_carryOut 19 = .ok (.istore 4, 2) := by decide +kernel
theorem dX9_carryOut_21 : decode cX9_carryOut 21 = .ok (.aload_n 0, 1) := by decide +kernel
theorem dX9_carryOut_22 : decode cX9_carryOut 22 = .ok (.getfield 50, 3) := by decide +kernel
theorem dX9_carryOut_25 : decode cX9_carryOut 25 = .ok (.iload_n 2, 1) := by decide +kernel
theorem dX9_carryOut_26 : decode cX9_carryOut 26 = .ok (.invokevirtual 390, 3) := by decide +kernel
theorem dX9_carryOut_29 : decode cX9_carryOut 29 = .ok (.tableswitch 185 68 85 #[171, 185, 185, 185, 185, 185, 185, 185, 185, 185, 99, 185, 157, 185, 87, 185, 131, 143], 87) := by decide +kernel
theorem dX9_carryOut_116 : decode cX9_carryOut 116 = .ok (.aload_n 1, 1) := by decide +kernel
theorem dX9_carryOut_117 : decode cX9_carryOut 117 = .ok (.getfield 72, 3) := by decide +kernel
theorem dX9_carryOut_120 : decode cX9_carryOut 120 = .ok (.iload_n 3, 1) := by decide +kernel
theorem dX9_carryOut_121 : decode cX9_carryOut 121 = .ok (.invokevirtual 104, 3) := by decide +kernel
theorem dX9_carryOut_124 : decode cX9_carryOut 124 = .ok (.pop, 1) := by decide +kernel
theorem dX9_carryOut_125 : decode cX9_carryOut 125 = .ok (.goto 113, 3) := by decide +kernel
theorem dX9_carryOut_128 : decode cX9_carryOut 128 = .ok (.aload_n 1, 1) := by decide +kernel
theorem dX9_carryOut_129 : decode cX9_carryOut 129 = .ok (.getfield 122, 3) := by decide +kernel
theorem dX9_carryOut_132 : decode cX9_carryOut 132 = .ok (.iload_n 3, 1) := by decide +kernel
theorem dX9_carryOut_133 : decode cX9_carryOut 133 = .ok (.iload 4, 2) := by decide +kernel
theorem dX9_carryOut_135 : decode cX9_carryOut 135 = .ok (.aload_n 0, 1) := by decide +kernel
theorem dX9_carryOut_136 : decode cX9_carryOut 136 = .ok (.getfield 50, 3) := by decide +kernel
theorem dX9_carryOut_139 : decode cX9_carryOut 139 = .ok (.iload_n 2, 1) := by decide +kernel
theorem dX9_carryOut_140 : decode cX9_carryOut 140 = .ok (.iconst 2, 1) := by decide +kernel
theorem dX9_carryOut_141 : decode cX9_carryOut 141 = .ok (.invokevirtual 387, 3) := by decide +kernel
theorem dX9_carryOut_144 : decode cX9_carryOut 144 = .ok (.aload_n 0, 1) := by decide +kernel
theorem dX9_carryOut_145 : decode cX9_carryOut 145 = .ok (.getfield 50, 3) := by decide +kernel
theorem dX9_carryOut_148 : decode cX9_carryOut 148 = .ok (.iload_n 2, 1) := by decide +kernel
theorem dX9_carryOut_149 : decode cX9_carryOut 149 = .ok (.iconst 3, 1) := by decide +kernel
theorem dX9_carryOut_150 : decode cX9_carryOut 150 = .ok (.invokevirtual 387, 3) := by decide +kernel
theorem dX9_carryOut_153 : decode cX9_carryOut 153 = .ok (.invokevirtual 132, 3) := by decide +kernel
theorem dX9_carryOut_156 : decode cX9_carryOut 156 = .ok (.pop, 1) := by decide +kernel
theorem dX9_carryOut_157 : decode cX9_carryOut 157 = .ok (.goto 81, 3) := by decide +kernel
theorem dX9_carryOut_160 : decode cX9_carryOut 160 = .ok (.aload_n 1, 1) := by decide +kernel
theorem dX9_carryOut_161 : decode cX9_carryOut 161 = .ok (.getfield 193, 3) := by decide +kernel
theorem dX9_carryOut_164 : decode cX9_carryOut 164 = .ok (.iload_n 3, 1) := by decide +kernel
theorem dX9_carryOut_165 : decode cX9_carryOut 165 = .ok (.invokevirtual 199, 3) := by decide +kernel
theorem dX9_carryOut_168 : decode cX9_carryOut 168 = .ok (.pop, 1) := by decide +kernel
theorem dX9_carryOut_169 : decode cX9_carryOut 169 = .ok (.goto 69, 3) := by decide +kernel
theorem dX9_carryOut_172 : decode cX9_carryOut 172 = .ok (.aload_n 1, 1) := by decide +kernel
theorem dX9_carryOut_173 : decode cX9_carryOut 173 = .ok (.getfield 193, 3) := by decide +kernel
theorem dX9_carryOut_176 : decode cX9_carryOut 176 = .ok (.iload_n 3, 1) := by decide +kernel
theorem dX9_carryOut_177 : decode cX9_carryOut 177 = .ok (.iload 4, 2) := by decide +kernel
theorem dX9_carryOut_179 : decode cX9_carryOut 179 = .ok (.invokevirtual 205, 3) := by decide +kernel
theorem dX9_carryOut_182 : decode cX9_carryOut 182 = .ok (.pop, 1) := by decide +kernel
theorem dX9_carryOut_183 : decode cX9_carryOut 183 = .ok (.goto 55, 3) := by decide +kernel
theorem dX9_carryOut_186 : decode cX9_carryOut 186 = .ok (.aload_n 0, 1) := by decide +kernel
theorem dX9_carryOut_187 : decode cX9_carryOut 187 = .ok (.aload_n 1, 1) := by decide +kernel
theorem dX9_carryOut_188 : decode cX9_carryOut 188 = .ok (.aload_n 1, 1) := by decide +kernel
theorem dX9_carryOut_189 : decode cX9_carryOut 189 = .ok (.getfield 193, 3) := by decide +kernel
theorem dX9_carryOut_192 : decode cX9_carryOut 192 = .ok (.iload_n 3, 1) := by decide +kernel
theorem dX9_carryOut_193 : decode cX9_carryOut 193 = .ok (.invokevirtual 208, 3) := by decide +kernel
theorem dX9_carryOut_196 : decode cX9_carryOut 196 = .ok (.pop, 1) := by decide +kernel
theorem dX9_carryOut_197 : decode cX9_carryOut 197 = .ok (.goto 41, 3) := by decide +kernel
theorem dX9_carryOut_200 : decode cX9_carryOut 200 = .ok (.aload_n 1, 1) := by decide +kernel
theorem dX9_carryOut_201 : decode cX9_carryOut 201 = .ok (.getfield 193, 3) := by decide +kernel
theorem dX9_carryOut_204 : decode cX9_carryOut 204 = .ok (.iload_n 3, 1) := by decide +kernel
theorem dX9_carryOut_205 : decode cX9_carryOut 205 = .ok (.iload 4, 2) := by decide +kernel
theorem dX9_carryOut_207 : decode cX9_carryOut 207 = .ok (.invokevirtual 215, 3) := by decide +kernel
theorem dX9_carryOut_210 : decode cX9_carryOut 210 = .ok (.pop, 1) := by decide +kernel
theorem dX9_carryOut_211 : decode cX9_carryOut 211 = .ok (.goto 27, 3) := by decide +kernel
theorem dX9_carryOut_214 : decode cX9_carryOut 214 = .ok (.aload_n 1, 1) := by decide +kernel
theorem dX9_carryOut_215 : decode cX9_carryOut 215 = .ok (.getfield 72, 3) := by decide +kernel
theorem dX9_carryOut_218 : decode cX9_carryOut 218 = .ok (.aload_n 1, 1) := by decide +kernel
theorem dX9_carryOut_219 : decode cX9_carryOut 219 = .ok (.getfield 72, 3) := by decide +kernel
theorem dX9_carryOut_222 : decode cX9_carryOut 222 = .ok (.getfield 90, 3) := by decide +kernel
theorem dX9_carryOut_225 : decode cX9_carryOut 225 = .ok (.aload_n 0, 1) := by decide +kernel
theorem dX9_carryOut_226 : decode cX9_carryOut 226 = .ok (.getfield 50, 3) := by decide +kernel
theorem dX9_carryOut_229 : decode cX9_carryOut 229 = .ok (.iload_n 2, 1) := by decide +kernel
theorem dX9_carryOut_230 : decode cX9_carryOut 230 = .ok (.invokevirtual 390, 3) := by decide +kernel
theorem dX9_carryOut_233 : decode cX9_carryOut 233 = .ok (.iload_n 3, 1) := by decide +kernel
theorem dX9_carryOut_234 : decode cX9_carryOut 234 = .ok (.invokevirtual 93, 3) := by decide +kernel
theorem dX9_carryOut_237 : decode cX9_carryOut 237 = .ok (.pop, 1) := by decide +kernel
theorem dX9_carryOut_238 : decode cX9_carryOut 238 = .ok (.return_, 1) := by decide +kernel
theorem dX10_init_0 : decode cX10_init 0 = .ok (.aload_n 0, 1) := by decide +kernel
theorem dX10_init_1 : decode cX10_init 1 = .ok (.invokespecial 1, 3) := by decide +kernel
theorem dX10_init_4 : decode cX10_init 4 = .ok (.aload_n 0, 1) := by decide +kernel
theorem dX10_init_5 : decode cX10_init 5 = .ok (.iconst (-1), 1) := by decide +kernel
theorem dX10_init_6 : decode cX10_init 6 = .ok (.putfield 7, 3) := by decide +kernel
theorem dX10_init_9 : decode cX10_init 9 = .ok (.aload_n 0, 1) := by decide +kernel
theorem dX10_init_10 : decode cX10_init 10 = .ok (.iconst (-1), 1) := by decide +kernel
theorem dX10_init_11 : decode cX10_init 11 = .ok (.putfield 13, 3) := by decide +kernel
theorem dX10_init_14 : decode cX10_init 14 = .ok (.aload_n 0, 1) := by decide +kernel
theorem dX10_init_15 : decode cX10_init 15 = .ok (.sipush 1357, 3) := by decide +kernel
theorem dX10_init_18 : decode cX10_init 18 = .ok (.newarray .int, 2) := by decide +kernel
theorem dX10_init_20 : decode cX10_init 20 = .ok (.putfield 16, 3) := by decide +kernel
theorem dX10_init_23 : decode cX10_init 23 = .ok (.aload_n 0, 1) := by decide +kernel
theorem dX10_init_24 : decode cX10_init 24 = .ok (.sipush 1357, 3) := by decide +kernel
theorem dX10_init_27 : decode cX10_init 27 = .ok (.newarray .int, 2) := by decide +kernel
theorem dX10_init_29 : decode cX10_init 29 = .ok (.putfield 20, 3) := by decide +kernel
theorem dX10_init_32 : decode cX10_init 32 = .ok (.aload_n 0, 1) := by decide +kernel
theorem dX10_init_33 : decode cX10_init 33 = .ok (.sipush 1357, 3) := by decide +kernel
theorem dX10_init_36 : decode cX10_init 36 = .ok (.newarray .int, 2) := by decide +kernel
theorem dX10_init_38 : decode cX10_init 38 = .ok (.putfield 23, 3) := by decide +kernel
theorem dX10_init_41 : decode cX10_init 41 = .ok (.aload_n 0, 1) := by decide +kernel
theorem dX10_init_42 : decode cX10_init 42 = .ok (.sipush 1357, 3) := by decide +kernel
theorem dX10_init_45 : decode cX10_init 45 = .ok (.newarray .int, 2) := by decide +kernel
theorem dX10_init_47 : decode cX10_init 47 = .ok (.putfield 26, 3) := by decide +kernel
theorem dX10_init_50 : decode cX10_init 50 = .ok (.aload_n 0, 1) := by decide +kernel
theorem dX10_init_51 : decode cX10_init 51 = .ok (.sipush 10856, 3) := by decide +kernel
theorem dX10_init_54 : decode cX10_init 54 = .ok (.newarray .int, 2) := by decide +kernel
theorem dX10_init_56 : decode cX10_init 56 = .ok (.putfield 29, 3) := by decide +kernel
theorem dX10_init_59 : decode cX10_init 59 = .ok (.aload_n 0, 1) := by decide +kernel
theorem dX10_init_60 : decode cX10_init 60 = .ok (.sipush 160, 3) := by decide +kernel
theorem dX10_init_63 : decode cX10_init 63 = .ok (.newarray .int, 2) := by decide +kernel
theorem dX10_init_65 : decode cX10_init 65 = .ok (.putfield 32, 3) := by decide +kernel
theorem dX10_init_68 : decode cX10_init 68 = .ok (.aload_n 0, 1) := by decide +kernel
theorem dX10_init_69 : decode cX10_init 69 = .ok (.sipush 160, 3) := by decide +kernel
theorem dX10_init_72 : decode cX10_init 72 = .ok (.newarray .int, 2) := by decide +kernel
theorem dX10_init_74 : decode cX10_init 74 = .ok (.putfield 35, 3) := by decide +kernel
theorem dX10_init_77 : decode cX10_init 77 = .ok (.aload_n 0, 1) := by decide +kernel
theorem dX10_init_78 : decode cX10_init 78 = .ok (.bipush 60, 2) := by decide +kernel
theorem dX10_init_80 : decode cX10_init 80 = .ok (.newarray .int, 2) := by decide +kernel
theorem dX10_init_82 : decode cX10_init 82 = .ok (.putfield 38, 3) := by decide +kernel
theorem dX10_init_85 : decode cX10_init 85 = .ok (.aload_n 0, 1) := by decide +kernel
theorem dX10_init_86 : decode cX10_init 86 = .ok (.bipush 80, 2) := by decide +kernel
theorem dX10_init_88 : decode cX10_init 88 = .ok (.newarray .int, 2) := by decide +kernel
theorem dX10_init_90 : decode cX10_init 90 = .ok (.putfield 41, 3) := by decide +kernel
theorem dX10_init_93 : decode cX10_init 93 = .ok (.aload_n 0, 1) := by decide +kernel
theorem dX10_init_94 : decode cX10_init 94 = .ok (.bipush 12, 2) := by decide +kernel
theorem dX10_init_96 : decode cX10_init 96 = .ok (.newarray .int, 2) := by decide +kernel
theorem dX10_init_98 : decode cX10_init 98 = .ok (.putfield 44, 3) := by decide +kernel
theorem dX10_init_101 : decode cX10_init 101 = .ok (.aload_n 0, 1) := by decide +kernel
theorem dX10_init_102 : decode cX10_init 102 = .ok (.bipush 63, 2) := by decide +kernel
theorem dX10_init_104 : decode cX10_init 104 = .ok (.newarray .int, 2) := by decide +kernel
theorem dX10_init_106 : decode cX10_init 106 = .ok (.dup, 1) := by decide +kernel
theorem dX10_init_107 : decode cX10_init 107 = .ok (.iconst 0, 1) := by decide +kernel
theorem dX10_init_108 : decode cX10_init 108 = .ok (.bipush 103, 2) := by decide +kernel
theorem dX10_init_110 : decode cX10_init 110 = .ok (.iastore, 1) := by decide +kernel
theorem dX10_init_111 : decode cX10_init 111 = .ok (.dup, 1) := by decide +kernel
theorem dX10_init_112 : decode cX10_init 112 = .ok (.iconst 1, 1) := by decide +kernel
theorem dX10_init_113 : decode cX10_init 113 = .ok (.bipush 97, 2) := by decide +kernel
theorem dX10_init_115 : decode cX10_init 115 = .ok (.iastore, 1) := by decide +kernel
theorem dX10_init_116 : decode cX10_init 116 = .ok (.dup, 1) := by decide +kernel
theorem dX10_init_117 : decode cX10_init 117 = .ok (.iconst 2, 1) := by decide +kernel
theorem dX10_init_118 : decode cX10_init 118 = .ok (.bipush 105, 2) := by decide +kernel
theorem dX10_init_120 : decode cX10_init 120 = .ok (.iastore, 1) := by decide +kernel
theorem dX10_init_121 : decode cX10_init 121 = .ok (.dup, 1) := by decide +kernel
theorem dX10_init_122 : decode cX10_init 122 = .ok (.iconst 3, 1) := by decide +kernel
theorem dX10_init_123 : decode cX10_init 123 = .ok (.bipush 110, 2) := by decide +kernel
theorem dX10_init_125 : decode cX10_init 125 = .ok (.iastore, 1) := by decide +kernel
theorem dX10_init_126 : decode cX10_init 126 = .ok (.dup, 1) := by decide +kernel
theorem dX10_init_127 : decode cX10_init 127 = .ok (.iconst 4, 1) := by decide +kernel
theorem dX10_init_128 : decode cX10_init 128 = .ok (.bipush 32, 2) := by decide +kernel
theorem dX10_init_130 : decode cX10_init 130 = .ok (.iastore, 1) := by decide +kernel
theorem dX10_init_131 : decode cX10_init 131 = .ok (.dup, 1) := by decide +kernel
theorem dX10_init_132 : decode cX10_init 132 = .ok (.iconst 5, 1) := by decide +kernel
theorem dX10_init_133 : decode cX10_init 133 = .ok (.bipush 100, 2) := by decide +kernel
theorem dX10_init_135 : decode cX10_init 135 = .ok (.iastore, 1) := by decide +kernel
theorem dX10_init_136 : decode cX10_init 136 = .ok (.dup, 1) := by decide +kernel
theorem dX10_init_137 : decode cX10_init 137 = .ok (.bipush 6, 2) := by decide +kernel
theorem dX10_init_139 : decode cX10_init 139 = .ok (.bipush 101, 2) := by decide +kernel
theorem dX10_init_141 : decode cX10_init 141 = .ok (.iastore, 1) := by decide +kernel
theorem dX10_init_142 : decode cX10_init 142 = .ok (.dup, 1) := by decide +kernel
theorem dX10_init_143 : decode cX10_init 143 = .ok (.bipush 7, 2) := by decide +kernel
theorem dX10_init_145 : decode cX10_init 145 = .ok (.bipush 108, 2) := by decide +kernel
theorem dX10_init_147 : decode cX10_init 147 = .ok (.iastore, 1) := by decide +kernel
theorem dX10_init_148 : decode cX10_init 148 = .ok (.dup, 1) := by decide +kernel
theorem dX10_init_149 : decode cX10_init 149 = .ok (.bipush 8, 2) := by decide +kernel
theorem dX10_init_151 : decode cX10_init 151 = .ok (.bipush 97, 2) := by decide +kernel
theorem dX10_init_153 : decode cX10_init 153 = .ok (.iastore, 1) := by decide +kernel
theorem dX10_init_154 : decode cX10_init 154 = .ok (.dup, 1) := by decide +kernel
theorem dX10_init_155 : decode cX10_init 155 = .ok (.bipush 9, 2) := by decide +kernel
theorem dX10_init_157 : decode cX10_init 157 = .ok (.bipush 121, 2) := by decide +kernel
theorem dX10_init_159 : decode cX10_init 159 = .ok (.iastore, 1) := by decide +kernel
theorem dX10_init_160 : decode cX10_init 160 = .ok (.dup, 1) := by decide +kernel
theorem dX10_init_161 : decode cX10_init 161 = .ok (.bipush 10, 2) := by decide +kernel
theorem dX10_init_163 : decode cX10_init 163 = .ok (.bipush 32, 2) := by decide +kernel
theorem dX10_init_165 : decode cX10_init 165 = .ok (.iastore, 1) := by decide +kernel
theorem dX10_init_166 : decode cX10_init 166 = .ok (.dup, 1) := by decide +kernel
theorem dX10_init_167 : decode cX10_init 167 = .ok (.bipush 11, 2) := by decide +kernel
theorem dX10_init_169 : decode cX10_init 169 = .ok (.bipush 109, 2) := by decide +kernel
theorem dX10_init_171 : decode cX10_init 171 = .ok (.iastore, 1) := by decide +kernel
theorem dX10_init_172 : decode cX10_init 172 = .ok (.dup, 1) := by decide +kernel
theorem dX10_init_173 : decode cX10_init 173 = .ok (.bipush 12, 2) := by decide +kernel
theorem dX10_init_175 : decode cX10_init 175 = .ok (.bipush 101, 2) := by decide +kernel
theorem dX10_init_177 : decode cX10_init 177 = .ok (.iastore, 1) := by decide +kernel
theorem dX10_init_178 : decode cX10_init 178 = .ok (.dup, 1) := by decide +kernel
theorem dX10_init_179 : decode cX10_init 179 = .ok (.bipush 13, 2) := by decide +kernel
theorem dX10_init_181 : decode cX10_init 181 = .ok (.bipush 97, 2) := by decide +kernel
theorem dX10_init_183 : decode cX10_init 183 = .ok (.iastore, 1) := by decide +kernel
theorem dX10_init_184 : decode cX10_init 184 = .ok (.dup, 1) := by decide +kernel
theorem dX10_init_185 : decode cX10_init 185 = .ok (.bipush 14, 2) := by decide +kernel
theorem dX10_init_187 : decode cX10_init 187 = .ok (.bipush 110, 2) := by decide +kernel
theorem dX10_init_189 : decode cX10_init 189 = .ok (.iastore, 1) := by decide +kernel
theorem dX10_init_190 : decode cX10_init 190 = .ok (.dup, 1) := by decide +kernel
theorem dX10_init_191 : decode cX10_init 191 = .ok (.bipush 15, 2) := by decide +kernel
theorem dX10_init_193 : decode cX10_init 193 = .ok (.bipush 32, 2) := by decide +kernel
theorem dX10_init_195 : decode cX10_init 195 = .ok (.iastore, 1) := by decide +kernel
theorem dX10_init_196 : decode cX10_init 196 = .ok (.dup, 1) := by decide +kernel
theorem dX10_init_197 : decode cX10_init 197 = .ok (.bipush 16, 2) := by decide +kernel
theorem dX10_init_199 : decode cX10_init 199 = .ok (.bipush 99, 2) := by decide +kernel
theorem dX10_init_201 : decode cX10_init 201 = .ok (.iastore, 1) := by decide +kernel
theorem dX10_init_202 : decode cX10_init 202 = .ok (.dup, 1) := by decide +kernel
theorem dX10_init_203 : decode cX10_init 203 = .ok (.bipush 17, 2) := by decide +kernel
theorem dX10_init_205 : decode cX10_init 205 = .ok (.bipush 108, 2) := by decide +kernel
theorem dX10_init_207 : decode cX10_init 207 = .ok (.iastore, 1) := by decide +kernel
theorem dX10_init_208 : decode cX10_init 208 = .ok (.dup, 1) := by decide +kernel
theorem dX10_init_209 : decode cX10_init 209 = .ok (.bipush 18, 2) := by decide +kernel
theorem dX10_init_211 : decode cX10_init 211 = .ok (.bipush 105, 2) := by decide +kernel
theorem dX10_init_213 : decode cX10_init 213 = .ok (.iastore, 1) := by decide +kernel
theorem dX10_init_214 : decode cX10_init 214 = .ok (.dup, 1) := by decide +kernel
theorem dX10_init_215 : decode cX10_init 215 = .ok (.bipush 19, 2) := by decide +kernel
theorem dX10_init_217 : decode cX10_init 217 = .ok (.bipush 112, 2) := by decide +kernel
theorem dX10_init_219 : decode cX10_init 219 = .ok (.iastore, 1) := by decide +kernel
theorem dX10_init_220 : decode cX10_init 220 = .ok (.dup, 1) := by decide +kernel
theorem dX10_init_221 : decode cX10_init 221 = .ok (.bipush 20, 2) := by decide +kernel
theorem dX10_init_223 : decode cX10_init 223 = .ok (.bipush 32, 2) := by decide +kernel
theorem dX10_init_225 : decode cX10_init 225 = .ok (.iastore, 1) := by decide +kernel
theorem dX10_init_226 : decode cX10_init 226 = .ok (.dup, 1) := by decide +kernel
theorem dX10_init_227 : decode cX10_init 227 = .ok (.bipush 21, 2) := by decide +kernel
theorem dX10_init_229 : decode cX10_init 229 = .ok (.bipush 102, 2) := by decide +kernel
theorem dX10_init_231 : decode cX10_init 231 = .ok (.iastore, 1) := by decide +kernel
theorem dX10_init_232 : decode cX10_init 232 = .ok (.dup, 1) := by decide +kernel
theorem dX10_init_233 : decode cX10_init 233 = .ok (.bipush 22, 2) := by decide +kernel
theorem dX10_init_235 : decode cX10_init 235 = .ok (.bipush 108, 2) := by decide +kernel
theorem dX10_init_237 : decode cX10_init 237 = .ok (.iastore, 1) := by decide +kernel
theorem dX10_init_238 : decode cX10_init 238 = .ok (.dup, 1) := by decide +kernel
theorem dX10_init_239 : decode cX10_init 239 = .ok (.bipush 23, 2) := by decide +kernel
theorem dX10_init_241 : decode cX10_init 241 = .ok (.bipush 105, 2) := by decide +kernel
theorem dX10_init_243 : decode cX10_init 243 = .ok (.iastore, 1) := by decide +kernel
theorem dX10_init_244 : decode cX10_init 244 = .ok (.dup, 1) := by decide +kernel
theorem dX10_init_245 : decode cX10_init 245 = .ok (.bipush 24, 2) := by decide +kernel
theorem dX10_init_247 : decode cX10_init 247 = .ok (.bipush 112, 2) := by decide +kernel
theorem dX10_init_249 : decode cX10_init 249 = .ok (.iastore, 1) := by decide +kernel
theorem dX10_init_250 : decode cX10_init 250 = .ok (.dup, 1) := by decide +kernel
theorem dX10_init_251 : decode cX10_init 251 = .ok (.bipush 25, 2) := by decide +kernel
theorem dX10_init_253 : decode cX10_init 253 = .ok (.bipush 115, 2) := by decide +kernel
theorem dX10_init_255 : decode cX10_init 255 = .ok (.iastore, 1) := by decide +kernel
theorem dX10_init_256 : decode cX10_init 256 = .ok (.dup, 1) := by decide +kernel
theorem dX10_init_257 : decode cX10_init 257 = .ok (.bipush 26, 2) := by decide +kernel
theorem dX10_init_259 : decode cX10_init 259 = .ok (.bipush 116, 2) := by decide +kernel
theorem dX10_init_261 : decode cX10_init 261 = .ok (.iastore, 1) := by decide +kernel
theorem dX10_init_262 : decode cX10_init 262 = .ok (.dup, 1) := by decide +kernel
theorem dX10_init_263 : decode cX10_init 263 = .ok (.bipush 27, 2) := by decide +kernel
theorem dX10_init_265 : decode cX10_init 265 = .ok (.bipush 101, 2) := by decide +kernel
theorem dX10_init_267 : decode cX10_init 267 = .ok (.iastore, 1) := by decide +kernel
theorem dX10_init_268 : decode cX10_init 268 = .ok (.dup, 1) := by decide +kernel
theorem dX10_init_269 : decode cX10_init 269 = .ok (.bipush 28, 2) := by decide +kernel
theorem dX10_init_271 : decode cX10_init 271 = .ok (.bipush 112, 2) := by decide +kernel
theorem dX10_init_273 : decode cX10_init 273 = .ok (.iastore, 1) := by decide +kernel
theorem dX10_init_274 : decode cX10_init 274 = .ok (.dup, 1) := by decide +kernel
theorem dX10_init_275 : decode cX10_init 275 = .ok (.bipush 29, 2) := by decide +kernel
theorem dX10_init_277 : decode cX10_init 277 = .ok (.bipush 32, 2) := by decide +kernel
theorem dX10_init_279 : decode cX10_init 279 = .ok (.iastore, 1) := by decide +kernel
theorem dX10_init_280 : decode cX10_init 280 = .ok (.dup, 1) := by decide +kernel
theorem dX10_init_281 : decode cX10_init 281 = .ok (.bipush 30, 2) := by decide +kernel
theorem dX10_init_283 : decode cX10_init 283 = .ok (.bipush 114, 2) := by decide +kernel
theorem dX10_init_285 : decode cX10_init 285 = .ok (.iastore, 1) := by decide +kernel
theorem dX10_init_286 : decode cX10_init 286 = .ok (.dup, 1) := by decide +kernel
theorem dX10_init_287 : decode cX10_init 287 = .ok (.bipush 31, 2) := by decide +kernel
theorem dX10_init_289 : decode cX10_init 289 = .ok (.bipush 101, 2) := by decide +kernel
theorem dX10_init_291 : decode cX10_init 291 = .ok (.iastore, 1) := by decide +kernel
theorem dX10_init_292 : decode cX10_init 292 = .ok (.dup, 1) := by decide +kernel
theorem dX10_init_293 : decode cX10_init 293 = .ok (.bipush 32, 2) := by decide +kernel
theorem dX10_init_295 : decode cX10_init 295 = .ok (.bipush 109, 2) := by decide +kernel
theorem dX10_init_297 : decode cX10_init 297 = .ok (.iastore, 1) := by decide +kernel
theorem dX10_init_298 : decode cX10_init 298 = .ok (.dup, 1) := by decide +kernel
theorem dX10_init_299 : decode cX10_init 299 = .ok (.bipush 33, 2) := by decide +kernel
theorem dX10_init_301 : decode cX10_init 301 = .ok (.bipush 111, 2) := by decide +kernel
theorem dX10_init_303 : decode cX10_init 303 = .ok (.iastore, 1) := by decide +kernel
theorem dX10_init_304 : decode cX10_init 304 = .ok (.dup, 1) := by decide +kernel
theorem dX10_init_305 : decode cX10_init 305 = .ok (.bipush 34, 2) := by decide +kernel
theorem dX10_init_307 : decode cX10_init 307 = .ok (.bipush 118, 2) := by decide +kernel
theorem dX10_init_309 : decode cX10_init 309 = .ok (.iastore, 1) := by decide +kernel
theorem dX10_init_310 : decode cX10_init 310 = .ok (.dup, 1) := by decide +kernel
theorem dX10_init_311 : decode cX10_init 311 = .ok (.bipush 35, 2) := by decide +kernel
theorem dX10_init_313 : decode cX10_init 313 = .ok (.bipush 101, 2) := by decide +kernel
theorem dX10_init_315 : decode cX10_init 315 = .ok (.iastore, 1) := by decide +kernel
theorem dX10_init_316 : decode cX10_init 316 = .ok (.dup, 1) := by decide +kernel
theorem dX10_init_317 : decode cX10_init 317 = .ok (.bipush 36, 2) := by decide +kernel
theorem dX10_init_319 : decode cX10_init 319 = .ok (.bipush 32, 2) := by decide +kernel
theorem dX10_init_321 : decode cX10_init 321 = .ok (.iastore, 1) := by decide +kernel
theorem dX10_init_322 : decode cX10_init 322 = .ok (.dup, 1) := by decide +kernel
theorem dX10_init_323 : decode cX10_init 323 = .ok (.bipush 37, 2) := by decide +kernel
theorem dX10_init_325 : decode cX10_init 325 = .ok (.bipush 110, 2) := by decide +kernel
theorem dX10_init_327 : decode cX10_init 327 = .ok (.iastore, 1) := by decide +kernel
theorem dX10_init_328 : decode cX10_init 328 = .ok (.dup, 1) := by decide +kernel
theorem dX10_init_329 : decode cX10_init 329 = .ok (.bipush 38, 2) := by decide +kernel
theorem dX10_init_331 : decode cX10_init 331 = .ok (.bipush 111, 2) := by decide +kernel
theorem dX10_init_333 : decode cX10_init 333 = .ok (.iastore, 1) := by decide +kernel
theorem dX10_init_334 : decode cX10_init 334 = .ok (.dup, 1) := by decide +kernel
theorem dX10_init_335 : decode cX10_init 335 = .ok (.bipush 39, 2) := by decide +kernel
theorem dX10_init_337 : decode cX10_init 337 = .ok (.bipush 116, 2) := by decide +kernel
theorem dX10_init_339 : decode cX10_init 339 = .ok (.iastore, 1) := by decide +kernel
theorem dX10_init_340 : decode cX10_init 340 = .ok (.dup, 1) := by decide +kernel
theorem dX10_init_341 : decode cX10_init 341 = .ok (.bipush 40, 2) := by decide +kernel
theorem dX10_init_343 : decode cX10_init 343 = .ok (.bipush 101, 2) := by decide +kernel
theorem dX10_init_345 : decode cX10_init 345 = .ok (.iastore, 1) := by decide +kernel
theorem dX10_init_346 : decode cX10_init 346 = .ok (.dup, 1) := by decide +kernel
theorem dX10_init_347 : decode cX10_init 347 = .ok (.bipush 41, 2) := by decide +kernel
theorem dX10_init_349 : decode cX10_init 349 = .ok (.bipush 32, 2) := by decide +kernel
theorem dX10_init_351 : decode cX10_init 351 = .ok (.iastore, 1) := by decide +kernel
theorem dX10_init_352 : decode cX10_init 352 = .ok (.dup, 1) := by decide +kernel
theorem dX10_init_353 : decode cX10_init 353 = .ok (.bipush 42, 2) := by decide +kernel
theorem dX10_init_355 : decode cX10_init 355 = .ok (.bipush 116, 2) := by decide +kernel
theorem dX10_init_357 : decode cX10_init 357 = .ok (.iastore, 1) := by decide +kernel
theorem dX10_init_358 : decode cX10_init 358 = .ok (.dup, 1) := by decide +kernel
theorem dX10_init_359 : decode cX10_init 359 = .ok (.bipush 43, 2) := by decide +kernel
theorem dX10_init_361 : decode cX10_init 361 = .ok (.bipush 97, 2) := by decide +kernel
theorem dX10_init_363 : decode cX10_init 363 = .ok (.iastore, 1) := by decide +kernel
theorem dX10_init_364 : decode cX10_init 364 = .ok (.dup, 1) := by decide +kernel
theorem dX10_init_365 : decode cX10_init 365 = .ok (.bipush 44, 2) := by decide +kernel
theorem dX10_init_367 : decode cX10_init 367 = .ok (.bipush 110, 2) := by decide +kernel
theorem dX10_init_369 : decode cX10_init 369 = .ok (.iastore, 1) := by decide +kernel
theorem dX10_init_370 : decode cX10_init 370 = .ok (.dup, 1) := by decide +kernel
theorem dX10_init_371 : decode cX10_init 371 = .ok (.bipush 45, 2) := by decide +kernel
theorem dX10_init_373 : decode cX10_init 373 = .ok (.bipush 107, 2) := by decide +kernel
theorem dX10_init_375 : decode cX10_init 375 = .ok (.iastore, 1) := by decide +kernel
theorem dX10_init_376 : decode cX10_init 376 = .ok (.dup, 1) := by decide +kernel
theorem dX10_init_377 : decode cX10_init 377 = .ok (.bipush 46, 2) := by decide +kernel
theorem dX10_init_379 : decode cX10_init 379 = .ok (.bipush 32, 2) := by decide +kernel
theorem dX10_init_381 : decode cX10_init 381 = .ok (.iastore, 1) := by decide +kernel
theorem dX10_init_382 : decode cX10_init 382 = .ok (.dup, 1) := by decide +kernel
theorem dX10_init_383 : decode cX10_init 383 = .ok (.bipush 47, 2) := by decide +kernel
theorem dX10_init_385 : decode cX10_init 385 = .ok (.bipush 116, 2) := by decide +kernel
theorem dX10_init_387 : decode cX10_init 387 = .ok (.iastore, 1) := by decide +kernel
theorem dX10_init_388 : decode cX10_init 388 = .ok (.dup, 1) := by decide +kernel
theorem dX10_init_389 : decode cX10_init 389 = .ok (.bipush 48, 2) := by decide +kernel
theorem dX10_init_391 : decode cX10_init 391 = .ok (.bipush 117, 2) := by decide +kernel
theorem dX10_init_393 : decode cX10_init 393 = .ok (.iastore, 1) := by decide +kernel
theorem dX10_init_394 : decode cX10_init 394 = .ok (.dup, 1) := by decide +kernel
theorem dX10_init_395 : decode cX10_init 395 = .ok (.bipush 49, 2) := by decide +kernel
theorem dX10_init_397 : decode cX10_init 397 = .ok (.bipush 110, 2) := by decide +kernel
theorem dX10_init_399 : decode cX10_init 399 = .ok (.iastore, 1) := by decide +kernel
theorem dX10_init_400 : decode cX10_init 400 = .ok (.dup, 1) := by decide +kernel
theorem dX10_init_401 : decode cX10_init 401 = .ok (.bipush 50, 2) := by decide +kernel
theorem dX10_init_403 : decode cX10_init 403 = .ok (.bipush 101, 2) := by decide +kernel
theorem dX10_init_405 : decode cX10_init 405 = .ok (.iastore, 1) := by decide +kernel
theorem dX10_init_406 : decode cX10_init 406 = .ok (.dup, 1) := by decide +kernel
theorem dX10_init_407 : decode cX10_init 407 = .ok (.bipush 51, 2) := by decide +kernel
theorem dX10_init_409 : decode cX10_init 409 = .ok (.bipush 32, 2) := by decide +kernel
theorem dX10_init_411 : decode cX10_init 411 = .ok (.iastore, 1) := by decide +kernel
theorem dX10_init_412 : decode cX10_init 412 = .ok (.dup, 1) := by decide +kernel
theorem dX10_init_413 : decode cX10_init 413 = .ok (.bipush 52, 2) := by decide +kernel
theorem dX10_init_415 : decode cX10_init 415 = .ok (.bipush 112, 2) := by decide +kernel
theorem dX10_init_417 : decode cX10_init 417 = .ok (.iastore, 1) := by decide +kernel
theorem dX10_init_418 : decode cX10_init 418 = .ok (.dup, 1) := by decide +kernel
theorem dX10_init_419 : decode cX10_init 419 = .ok (.bipush 53, 2) := by decide +kernel
theorem dX10_init_421 : decode cX10_init 421 = .ok (.bipush 111, 2) := by decide +kernel
theorem dX10_init_423 : decode cX10_init 423 = .ok (.iastore, 1) := by decide +kernel
theorem dX10_init_424 : decode cX10_init 424 = .ok (.dup, 1) := by decide +kernel
theorem dX10_init_425 : decode cX10_init 425 = .ok (.bipush 54, 2) := by decide +kernel
theorem dX10_init_427 : decode cX10_init 427 = .ok (.bipush 117, 2) := by decide +kernel
theorem dX10_init_429 : decode cX10_init 429 = .ok (.iastore, 1) := by decide +kernel
theorem dX10_init_430 : decode cX10_init 430 = .ok (.dup, 1) := by decide +kernel
theorem dX10_init_431 : decode cX10_init 431 = .ok (.bipush 55, 2) := by decide +kernel
theorem dX10_init_433 : decode cX10_init 433 = .ok (.bipush 114, 2) := by decide +kernel
theorem dX10_init_435 : decode cX10_init 435 = .ok (.iastore, 1) := by decide +kernel
theorem dX10_init_436 : decode cX10_init 436 = .ok (.dup, 1) := by decide +kernel
theorem dX10_init_437 : decode cX10_init 437 = .ok (.bipush 56, 2) := by decide +kernel
theorem dX10_init_439 : decode cX10_init 439 = .ok (.bipush 32, 2) := by decide +kernel
theorem dX10_init_441 : decode cX10_init 441 = .ok (.iastore, 1) := by decide +kernel
theorem dX10_init_442 : decode cX10_init 442 = .ok (.dup, 1) := by decide +kernel
theorem dX10_init_443 : decode cX10_init 443 = .ok (.bipush 57, 2) := by decide +kernel
theorem dX10_init_445 : decode cX10_init 445 = .ok (.bipush 100, 2) := by decide +kernel
theorem dX10_init_447 : decode cX10_init 447 = .ok (.iastore, 1) := by decide +kernel
theorem dX10_init_448 : decode cX10_init 448 = .ok (.dup, 1) := by decide +kernel
theorem dX10_init_449 : decode cX10_init 449 = .ok (.bipush 58, 2) := by decide +kernel
theorem dX10_init_451 : decode cX10_init 451 = .ok (.bipush 114, 2) := by decide +kernel
theorem dX10_init_453 : decode cX10_init 453 = .ok (.iastore, 1) := by decide +kernel
theorem dX10_init_454 : decode cX10_init 454 = .ok (.dup, 1) := by decide +kernel
theorem dX10_init_455 : decode cX10_init 455 = .ok (.bipush 59, 2) := by decide +kernel
theorem dX10_init_457 : decode cX10_init 457 = .ok (.bipush 97, 2) := by decide +kernel
theorem dX10_init_459 : decode cX10_init 459 = .ok (.iastore, 1) := by decide +kernel
theorem dX10_init_460 : decode cX10_init 460 = .ok (.dup, 1) := by decide +kernel
theorem dX10_init_461 : decode cX10_init 461 = .ok (.bipush 60, 2) := by decide +kernel
theorem dX10_init_463 : decode cX10_init 463 = .ok (.bipush 105, 2) := by decide +kernel
theorem dX10_init_465 : decode cX10_init 465 = .ok (.iastore, 1) := by decide +kernel
theorem dX10_init_466 : decode cX10_init 466 = .ok (.dup, 1) := by decide +kernel
theorem dX10_init_467 : decode cX10_init 467 = .ok (.bipush 61, 2) := by decide +kernel
theorem dX10_init_469 : decode cX10_init 469 = .ok (.bipush 110, 2) := by decide +kernel
theorem dX10_init_471 : decode cX10_init 471 = .ok (.iastore, 1) := by decide +kernel
theorem dX10_init_472 : decode cX10_init 472 = .ok (.dup, 1) := by decide +kernel
theorem dX10_init_473 : decode cX10_init 473 = .ok (.bipush 62, 2) := by decide +kernel
theorem dX10_init_475 : decode cX10_init 475 = .ok (.bipush 32, 2) := by decide +kernel
theorem dX10_init_477 : decode cX10_init 477 = .ok (.iastore, 1) := by decide +kernel
theorem dX10_init_478 : decode cX10_init 478 = .ok (.putfield 47, 3) := by decide +kernel
theorem dX10_init_481 : decode cX10_init 481 = .ok (.aload_n 0, 1) := by decide +kernel
theorem dX10_init_482 : decode cX10_init 482 = .ok (.bipush 13, 2) := by decide +kernel
theorem dX10_init_484 : decode cX10_init 484 = .ok (.newarray .int, 2) := by decide +kernel
theorem dX10_init_486 : decode cX10_init 486 = .ok (.dup, 1) := by decide +kernel
theorem dX10_init_487 : decode cX10_init 487 = .ok (.iconst 0, 1) := by decide +kernel
theorem dX10_init_488 : decode cX10_init 488 = .ok (.iconst 0, 1) := by decide +kernel
theorem dX10_init_489 : decode cX10_init 489 = .ok (.iastore, 1) := by decide +kernel
theorem dX10_init_490 : decode cX10_init 490 = .ok (.dup, 1) := by decide +kernel
theorem dX10_init_491 : decode cX10_init 491 = .ok (.iconst 1, 1) := by decide +kernel
theorem dX10_init_492 : decode cX10_init 492 = .ok (.iconst 5, 1) := by decide +kernel
theorem dX10_init_493 : decode cX10_init 493 = .ok (.iastore, 1) := by decide +kernel
theorem dX10_init_494 : decode cX10_init 494 = .ok (.dup, 1) := by decide +kernel
theorem dX10_init_495 : decode cX10_init 495 = .ok (.iconst 2, 1) := by decide +kernel
theorem dX10_init_496 : decode cX10_init 496 = .ok (.bipush 11, 2) := by decide +kernel
theorem dX10_init_498 : decode cX10_init 498 = .ok (.iastore, 1) := by decide +kernel
theorem dX10_init_499 : decode cX10_init 499 = .ok (.dup, 1) := by decide +kernel
theorem dX10_init_500 : decode cX10_init 500 = .ok (.iconst 3, 1) := by decide +kernel
theorem dX10_init_501 : decode cX10_init 501 = .ok (.bipush 16, 2) := by decide +kernel
theorem dX10_init_503 : decode cX10_init 503 = .ok (.iastore, 1) := by decide +kernel
theorem dX10_init_504 : decode cX10_init 504 = .ok (.dup, 1) := by decide +kernel
theorem dX10_init_505 : decode cX10_init 505 = .ok (.iconst 4, 1) := by decide +kernel
theorem dX10_init_506 : decode cX10_init 506 = .ok (.bipush 21, 2) := by decide +kernel
theorem dX10_init_508 : decode cX10_init 508 = .ok (.iastore, 1) := by decide +kernel
theorem dX10_init_509 : decode cX10_init 509 = .ok (.dup, 1) := by decide +kernel
theorem dX10_init_510 : decode cX10_init 510 = .ok (.iconst 5, 1) := by decide +kernel
theorem dX10_init_511 : decode cX10_init 511 = .ok (.bipush 25, 2) := by decide +kernel
theorem dX10_init_513 : decode cX10_init 513 = .ok (.iastore, 1) := by decide +kernel
theorem dX10_init_514 : decode cX10_init 514 = .ok (.dup, 1) := by decide +kernel
theorem dX10_init_515 : decode cX10_init 515 = .ok (.bipush 6, 2) := by decide +kernel
theorem dX10_init_517 : decode cX10_init 517 = .ok (.bipush 30, 2) := by decide +kernel
theorem dX10_init_519 : decode cX10_init 519 = .ok (.iastore, 1) := by decide +kernel
theorem dX10_init_520 : decode cX10_init 520 = .ok (.dup, 1) := by decide +kernel
theorem dX10_init_521 : decode cX10_init 521 = .ok (.bipush 7, 2) := by decide +kernel
theorem dX10_init_523 : decode cX10_init 523 = .ok (.bipush 37, 2) := by decide +kernel
theorem dX10_init_525 : decode cX10_init 525 = .ok (.iastore, 1) := by decide +kernel
theorem dX10_init_526 : decode cX10_init 526 = .ok (.dup, 1) := by decide +kernel
theorem dX10_init_527 : decode cX10_init 527 = .ok (.bipush 8, 2) := by decide +kernel
theorem dX10_init_529 : decode cX10_init 529 = .ok (.bipush 42, 2) := by decide +kernel
theorem dX10_init_531 : decode cX10_init 531 = .ok (.iastore, 1) := by decide +kernel
theorem dX10_init_532 : decode cX10_init 532 = .ok (.dup, 1) := by decide +kernel
theorem dX10_init_533 : decode cX10_init 533 = .ok (.bipush 9, 2) := by decide +kernel
theorem dX10_init_535 : decode cX10_init 535 = .ok (.bipush 47, 2) := by decide +kernel
theorem dX10_init_537 : decode cX10_init 537 = .ok (.iastore, 1) := by decide +kernel
theorem dX10_init_538 : decode cX10_init 538 = .ok (.dup, 1) := by decide +kernel
theorem dX10_init_539 : decode cX10_init 539 = .ok (.bipush 10, 2) := by decide +kernel
theorem dX10_init_541 : decode cX10_init 541 = .ok (.bipush 52, 2) := by decide +kernel
theorem dX10_init_543 : decode cX10_init 543 = .ok (.iastore, 1) := by decide +kernel
theorem dX10_init_544 : decode cX10_init 544 = .ok (.dup, 1) := by decide +kernel
theorem dX10_init_545 : decode cX10_init 545 = .ok (.bipush 11, 2) := by decide +kernel
theorem dX10_init_547 : decode cX10_init 547 = .ok (.bipush 57, 2) := by decide +kernel
theorem dX10_init_549 : decode cX10_init 549 = .ok (.iastore, 1) := by decide +kernel
theorem dX10_init_550 : decode cX10_init 550 = .ok (.dup, 1) := by decide +kernel
theorem dX10_init_551 : decode cX10_init 551 = .ok (.bipush 12, 2) := by decide +kernel
theorem dX10_init_553 : decode cX10_init 553 = .ok (.bipush 63, 2) := by decide +kernel
theorem dX10_init_555 : decode cX10_init 555 = .ok (.iastore, 1) := by decide +kernel
theorem dX10_init_556 : decode cX10_init 556 = .ok (.putfield 50, 3) := by decide +kernel
theorem dX10_init_559 : decode cX10_init 559 = .ok (.return_, 1) := by decide +kernel
theorem dX10_thrown_0 : decode cX10_thrown 0 = .ok (.aload_n 0, 1) := by decide +kernel
theorem dX10_thrown_1 : decode cX10_thrown 1 = .ok (.getfield 53, 3) := by decide +kernel
theorem dX10_thrown_4 : decode cX10_thrown 4 = .ok (.ireturn, 1) := by decide +kernel
theorem dX10_fail_0 : decode cX10_fail 0 = .ok (.aload_n 0, 1) := by decide +kernel
theorem dX10_fail_1 : decode cX10_fail 1 = .ok (.iload_n 1, 1) := by decide +kernel
theorem dX10_fail_2 : decode cX10_fail 2 = .ok (.putfield 53, 3) := by decide +kernel
theorem dX10_fail_5 : decode cX10_fail 5 = .ok (.iconst 0, 1) := by decide +kernel
theorem dX10_fail_6 : decode cX10_fail 6 = .ok (.ireturn, 1) := by decide +kernel
theorem dX10_isIn_0 : decode cX10_isIn 0 = .ok (.iload_n 0, 1) := by decide +kernel
theorem dX10_isIn_1 : decode cX10_isIn 1 = .ok (.iload_n 1, 1) := by decide +kernel
theorem dX10_isIn_2 : decode cX10_isIn 2 = .ok (.if_icmp .lt 12, 3) := by decide +kernel
theorem dX10_isIn_5 : decode cX10_isIn 5 = .ok (.iload_n 0, 1) := by decide +kernel
theorem dX10_isIn_6 : decode cX10_isIn 6 = .ok (.iload_n 2, 1) := by decide +kernel
theorem dX10_isIn_7 : decode cX10_isIn 7 = .ok (.if_icmp .gt 7, 3) := by decide +kernel
theorem dX10_isIn_10 : decode cX10_isIn 10 = .ok (.iconst 1, 1) := by decide +kernel
theorem dX10_isIn_11 : decode cX10_isIn 11 = .ok (.goto 4, 3) := by decide +kernel
theorem dX10_isIn_14 : decode cX10_isIn 14 = .ok (.iconst 0, 1) := by decide +kernel
theorem dX10_isIn_15 : decode cX10_isIn 15 = .ok (.ireturn, 1) := by decide +kernel
theorem dX10_lays_0 : decode cX10_lays 0 = .ok (.iconst 0, 1) := by decide +kernel
theorem dX10_lays_1 : decode cX10_lays 1 = .ok (.istore_n 2, 1) := by decide +kernel
theorem dX10_lays_2 : decode cX10_lays 2 = .ok (.iload_n 2, 1) := by decide +kernel
theorem dX10_lays_3 : decode cX10_lays 3 = .ok (.sipush 1357, 3) := by decide +kernel
theorem dX10_lays_6 : decode cX10_lays 6 = .ok (.if_icmp .ge 15, 3) := by decide +kernel
theorem dX10_lays_9 : decode cX10_lays 9 = .ok (.aload_n 0, 1) := by decide +kernel
theorem dX10_lays_10 : decode cX10_lays 10 = .ok (.iload_n 2, 1) := by decide +kernel
theorem dX10_lays_11 : decode cX10_lays 11 = .ok (.aload_n 1, 1) := by decide +kernel
theorem dX10_lays_12 : decode cX10_lays 12 = .ok (.iload_n 2, 1) := by decide +kernel
theorem dX10_lays_13 : decode cX10_lays 13 = .ok (.iaload, 1) := by decide +kernel
theorem dX10_lays_14 : decode cX10_lays 14 = .ok (.iastore, 1) := by decide +kernel
theorem dX10_lays_15 : decode cX10_lays 15 = .ok (.iinc 2 1, 3) := by decide +kernel
theorem dX10_lays_18 : decode cX10_lays 18 = .ok (.goto (-16), 3) := by decide +kernel
theorem dX10_lays_21 : decode cX10_lays 21 = .ok (.return_, 1) := by decide +kernel
theorem dX10_begins_0 : decode cX10_begins 0 = .ok (.aload_n 0, 1) := by decide +kernel
theorem dX10_begins_1 : decode cX10_begins 1 = .ok (.iconst 0, 1) := by decide +kernel
theorem dX10_begins_2 : decode cX10_begins 2 = .ok (.putfield 53, 3) := by decide +kernel
theorem dX10_begins_5 : decode cX10_begins 5 = .ok (.aload_n 0, 1) := by decide +kernel
theorem dX10_begins_6 : decode cX10_begins 6 = .ok (.getfield 20, 3) := by decide +kernel
theorem dX10_begins_9 : decode cX10_begins 9 = .ok (.aload_n 0, 1) := by decide +kernel
theorem dX10_begins_10 : decode cX10_begins 10 = .ok (.getfield 16, 3) := by decide +kernel
theorem dX10_begins_13 : decode cX10_begins 13 = .ok (.invokestatic 56, 3) := by decide +kernel
theorem dX10_begins_16 : decode cX10_begins 16 = .ok (.return_, 1) := by decide +kernel
theorem dX10_ends_0 : decode cX10_ends 0 = .ok (.aload_n 0, 1) := by decide +kernel
theorem dX10_ends_1 : decode cX10_ends 1 = .ok (.getfield 53, 3) := by decide +kernel
theorem dX10_ends_4 : decode cX10_ends 4 = .ok (.ifCond .eq 16, 3) := by decide +kernel
theorem dX10_ends_7 : decode cX10_ends 7 = .ok (.aload_n 0, 1) := by decide +kernel
theorem dX10_ends_8 : decode cX10_ends 8 = .ok (.getfield 16, 3) := by decide +kernel
theorem dX10_ends_11 : decode cX10_ends 11 = .ok (.aload_n 0, 1) := by decide +kernel
theorem dX10_ends_12 : decode cX10_ends 12 = .ok (.getfield 20, 3) := by decide +kernel
theorem dX10_ends_15 : decode cX10_ends 15 = .ok (.invokestatic 56, 3) := by decide +kernel
theorem dX10_ends_18 : decode cX10_ends 18 = .ok (.iconst 0, 1) := by decide +kernel
theorem dX10_ends_19 : decode cX10_ends 19 = .ok (.ireturn, 1) := by decide +kernel
theorem dX10_ends_20 : decode cX10_ends 20 = .ok (.aload_n 0, 1) := by decide +kernel
theorem dX10_ends_21 : decode cX10_ends 21 = .ok (.getfield 60, 3) := by decide +kernel
theorem dX10_ends_24 : decode cX10_ends 24 = .ok (.bipush 8, 2) := by decide +kernel
theorem dX10_ends_26 : decode cX10_ends 26 = .ok (.if_icmp .ne 44, 3) := by decide +kernel
theorem dX10_ends_29 : decode cX10_ends 29 = .ok (.iconst 0, 1) := by decide +kernel
theorem dX10_ends_30 : decode cX10_ends 30 = .ok (.istore_n 2, 1) := by decide +kernel
theorem dX10_ends_31 : decode cX10_ends 31 = .ok (.iload_n 2, 1) := by decide +kernel
theorem dX10_ends_32 : decode cX10_ends 32 = .ok (.sipush 9499, 3) := by decide +kernel
theorem dX10_ends_35 : decode cX10_ends 35 = .ok (.if_icmp .ge 25, 3) := by decide +kernel
theorem dX10_ends_38 : decode cX10_ends 38 = .ok (.aload_n 0, 1) := by decide +kernel
theorem dX10_ends_39 : decode cX10_ends 39 = .ok (.getfield 29, 3) := by decide +kernel
theorem dX10_ends_42 : decode cX10_ends 42 = .ok (.iload_n 2, 1) := by decide +kernel
theorem dX10_ends_43 : decode cX10_ends 43 = .ok (.aload_n 0, 1) := by decide +kernel
theorem dX10_ends_44 : decode cX10_ends 44 = .ok (.getfield 29, 3) := by decide +kernel
theorem dX10_ends_47 : decode cX10_ends 47 = .ok (.iload_n 2, 1) := by decide +kernel
theorem dX10_ends_48 : decode cX10_ends 48 = .ok (.sipush 1357, 3) := by decide +kernel
theorem dX10_ends_51 : decode cX10_ends 51 = .ok (.iadd, 1) := by decide +kernel
theorem dX10_ends_52 : decode cX10_ends 52 = .ok (.iaload, 1) := by decide +kernel
theorem dX10_ends_53 : decode cX10_ends 53 = .ok (.iastore, 1) := by decide +kernel
theorem dX10_ends_54 : decode cX10_ends 54 = .ok (.iinc 2 1, 3) := by decide +kernel
theorem dX10_ends_57 : decode cX10_ends 57 = .ok (.goto (-26), 3) := by decide +kernel
theorem dX10_ends_60 : decode cX10_ends 60 = .ok (.aload_n 0, 1) := by decide +kernel
theorem dX10_ends_61 : decode cX10_ends 61 = .ok (.dup, 1) := by decide +kernel
theorem dX10_ends_62 : decode cX10_ends 62 = .ok (.getfield 60, 3) := by decide +kernel
theorem dX10_ends_65 : decode cX10_ends 65 = .ok (.iconst 1, 1) := by decide +kernel
theorem dX10_ends_66 : decode cX10_ends 66 = .ok (.isub, 1) := by decide +kernel
theorem dX10_ends_67 : decode cX10_ends 67 = .ok (.putfield 60, 3) := by decide +kernel
theorem dX10_ends_70 : decode cX10_ends 70 = .ok (.iconst 0, 1) := by decide +kernel
theorem dX10_ends_71 : decode cX10_ends 71 = .ok (.istore_n 2, 1) := by decide +kernel
theorem dX10_ends_72 : decode cX10_ends 72 = .ok (.iload_n 2, 1) := by decide +kernel
theorem dX10_ends_73 : decode cX10_ends 73 = .ok (.sipush 1357, 3) := by decide +kernel
theorem dX10_ends_76 : decode cX10_ends 76 = .ok (.if_icmp .ge 30, 3) := by decide +kernel
theorem dX10_ends_79 : decode cX10_ends 79 = .ok (.aload_n 0, 1) := by decide +kernel
theorem dX10_ends_80 : decode cX10_ends 80 = .ok (.getfield 29, 3) := by decide +kernel
theorem dX10_ends_83 : decode cX10_ends 83 = .ok (.aload_n 0, 1) := by decide +kernel
theorem dX10_ends_84 : decode cX10_ends 84 = .ok (.getfield 60, 3) := by decide +kernel
theorem dX10_ends_87 : decode cX10_ends 87 = .ok (.sipush 1357, 3) := by decide +kernel
theorem dX10_ends_90 : decode cX10_ends 90 = .ok (.imul, 1) := by decide +kernel
theorem dX10_ends_91 : decode cX10_ends 91 = .ok (.iload_n 2, 1) := by decide +kernel
theorem dX10_ends_92 : decode cX10_ends 92 = .ok (.iadd, 1) := by decide +kernel
theorem dX10_ends_93 : decode cX10_ends 93 = .ok (.aload_n 0, 1) := by decide +kernel
theorem dX10_ends_94 : decode cX10_ends 94 = .ok (.getfield 20, 3) := by decide +kernel
theorem dX10_ends_97 : decode cX10_ends 97 = .ok (.iload_n 2, 1) := by decide +kernel
theorem dX10_ends_98 : decode cX10_ends 98 = .ok (.iaload, 1) := by decide +kernel
theorem dX10_ends_99 : decode cX10_ends 99 = .ok (.iastore, 1) := by decide +kernel
theorem dX10_ends_100 : decode cX10_ends 100 = .ok (.iinc 2 1, 3) := by decide +kernel
theorem dX10_ends_103 : decode cX10_ends 103 = .ok (.goto (-31), 3) := by decide +kernel
theorem dX10_ends_106 : decode cX10_ends 106 = .ok (.aload_n 0, 1) := by decide +kernel
theorem dX10_ends_107 : decode cX10_ends 107 = .ok (.dup, 1) := by decide +kernel
theorem dX10_ends_108 : decode cX10_ends 108 = .ok (.getfield 60, 3) := by decide +kernel
theorem dX10_ends_111 : decode cX10_ends 111 = .ok (.iconst 1, 1) := by decide +kernel
theorem dX10_ends_112 : decode cX10_ends 112 = .ok (.iadd, 1) := by decide +kernel
theorem dX10_ends_113 : decode cX10_ends 113 = .ok (.putfield 60, 3) := by decide +kernel
theorem dX10_ends_116 : decode cX10_ends 116 = .ok (.iload_n 1, 1) := by decide +kernel
theorem dX10_ends_117 : decode cX10_ends 117 = .ok (.ireturn, 1) := by decide +kernel
theorem dX10_isSong_0 : decode cX10_isSong 0 = .ok (.iload_n 0, 1) := by decide +kernel
theorem dX10_isSong_1 : decode cX10_isSong 1 = .ok (.iconst 0, 1) := by decide +kernel
theorem dX10_isSong_2 : decode cX10_isSong 2 = .ok (.iconst 3, 1) := by decide +kernel
theorem dX10_isSong_3 : decode cX10_isSong 3 = .ok (.invokestatic 63, 3) := by decide +kernel
theorem dX10_isSong_6 : decode cX10_isSong 6 = .ok (.ireturn, 1) := by decide +kernel
theorem dX10_isFilter_0 : decode cX10_isFilter 0 = .ok (.iload_n 1, 1) := by decide +kernel
theorem dX10_isFilter_1 : decode cX10_isFilter 1 = .ok (.iconst 0, 1) := by decide +kernel
theorem dX10_isFilter_2 : decode cX10_isFilter 2 = .ok (.aload_n 0, 1) := by decide +kernel
theorem dX10_isFilter_3 : decode cX10_isFilter 3 = .ok (.getfield 16, 3) := by decide +kernel
theorem dX10_isFilter_6 : decode cX10_isFilter 6 = .ok (.iconst 0, 1) := by decide +kernel
theorem dX10_isFilter_7 : decode cX10_isFilter 7 = .ok (.iaload, 1) := by decide +kernel
theorem dX10_isFilter_8 : decode cX10_isFilter 8 = .ok (.iconst 1, 1) := by decide +kernel
theorem dX10_isFilter_9 : decode cX10_isFilter 9 = .ok (.isub, 1) := by decide +kernel
theorem dX10_isFilter_10 : decode cX10_isFilter 10 = .ok (.invokestatic 63, 3) := by decide +kernel
theorem dX10_isFilter_13 : decode cX10_isFilter 13 = .ok (.ireturn, 1) := by decide +kernel
theorem dX10_isTank_0 : decode cX10_isTank 0 = .ok (.iload_n 1, 1) := by decide +kernel
theorem dX10_isTank_1 : decode cX10_isTank 1 = .ok (.iconst 0, 1) := by decide +kernel
theorem dX10_isTank_2 : decode cX10_isTank 2 = .ok (.aload_n 0, 1) := by decide +kernel
theorem dX10_isTank_3 : decode cX10_isTank 3 = .ok (.getfield 16, 3) := by decide +kernel
theorem dX10_isTank_6 : decode cX10_isTank 6 = .ok (.iconst 1, 1) := by decide +kernel
theorem dX10_isTank_7 : decode cX10_isTank 7 = .ok (.iaload, 1) := by decide +kernel
theorem dX10_isTank_8 : decode cX10_isTank 8 = .ok (.iconst 1, 1) := by decide +kernel
theorem dX10_isTank_9 : decode cX10_isTank 9 = .ok (.isub, 1) := by decide +kernel
theorem dX10_isTank_10 : decode cX10_isTank 10 = .ok (.invokestatic 63, 3) := by decide +kernel
theorem dX10_isTank_13 : decode cX10_isTank 13 = .ok (.ireturn, 1) := by decide +kernel
theorem dX10_of_0 : decode cX10_of 0 = .ok (.bipush 29, 2) := by decide +kernel
theorem dX10_of_2 : decode cX10_of 2 = .ok (.bipush 12, 2) := by decide +kernel
theorem dX10_of_4 : decode cX10_of 4 = .ok (.iload_n 0, 1) := by decide +kernel
theorem dX10_of_5 : decode cX10_of 5 = .ok (.imul, 1) := by decide +kernel
theorem dX10_of_6 : decode cX10_of 6 = .ok (.iadd, 1) := by decide +kernel
theorem dX10_of_7 : decode cX10_of 7 = .ok (.iload_n 1, 1) := by decide +kernel
theorem dX10_of_8 : decode cX10_of 8 = .ok (.iadd, 1) := by decide +kernel
theorem dX10_of_9 : decode cX10_of 9 = .ok (.ireturn, 1) := by decide +kernel
theorem dX10_size_0 : decode cX10_size 0 = .ok (.iload_n 0, 1) := by decide +kernel
theorem dX10_size_1 : decode cX10_size 1 = .ok (.ifCond .ge 8, 3) := by decide +kernel
theorem dX10_size_4 : decode cX10_size 4 = .ok (.iload_n 0, 1) := by decide +kernel
theorem dX10_size_5 : decode cX10_size 5 = .ok (.ineg, 1) := by decide +kernel
theorem dX10_size_6 : decode cX10_size 6 = .ok (.goto 4, 3) := by decide +kernel
theorem dX10_size_9 : decode cX10_size 9 = .ok (.iload_n 0, 1) := by decide +kernel
theorem dX10_size_10 : decode cX10_size 10 = .ok (.ireturn, 1) := by decide +kernel
theorem dX10_isAllowed_0 : decode cX10_isAllowed 0 = .ok (.iload_n 0, 1) := by decide +kernel
theorem dX10_isAllowed_1 : decode cX10_isAllowed 1 = .ok (.tableswitch 135 99 115 #[108, 92, 135, 117, 83, 135, 135, 135, 135, 135, 100, 135, 135, 135, 135, 135, 127], 83) := by decide +kernel
theorem dX10_isAllowed_84 : decode cX10_isAllowed 84 = .ok (.iload_n 1, 1) := by decide +kernel
theorem dX10_isAllowed_85 : decode cX10_isAllowed 85 = .ok (.iconst 0, 1) := by decide +kernel
theorem dX10_isAllowed_86 : decode cX10_isAllowed 86 = .ok (.sipush 200, 3) := by decide +kernel
theorem dX10_isAllowed_89 : decode cX10_isAllowed 89 = .ok (.invokestatic 63, 3) := by decide +kernel
theorem dX10_isAllowed_92 : decode cX10_isAllowed 92 = .ok (.ireturn, 1) := by decide +kernel
theorem dX10_isAllowed_93 : decode cX10_isAllowed 93 = .ok (.iload_n 1, 1) := by decide +kernel
theorem dX10_isAllowed_94 : decode cX10_isAllowed 94 = .ok (.iconst 1, 1) := by decide +kernel
theorem dX10_isAllowed_95 : decode cX10_isAllowed 95 = .ok (.bipush 8, 2) := by decide +kernel
theorem dX10_isAllowed_97 : decode cX10_isAllowed 97 = .ok (.invokestatic 63, 3) := by decide +kernel
theorem dX10_isAllowed_100 : decode cX10_isAllowed 100 = .ok (.ireturn, 1) := by decide +kernel
theorem dX10_isAllowed_101 : decode cX10_isAllowed 101 = .ok (.iload_n 1, 1) := by decide +kernel
theorem dX10_isAllowed_102 : decode cX10_isAllowed 102 = .ok (.iconst 2, 1) := by decide +kernel
theorem dX10_isAllowed_103 : decode cX10_isAllowed 103 = .ok (.bipush 8, 2) := by decide +kernel
theorem dX10_isAllowed_105 : decode cX10_isAllowed 105 = .ok (.invokestatic 63, 3) := by decide +kernel
theorem dX10_isAllowed_108 : decode cX10_isAllowed 108 = .ok (.ireturn, 1) := by decide +kernel
theorem dX10_isAllowed_109 : decode cX10_isAllowed 109 = .ok (.iload_n 1, 1) := by decide +kernel
theorem dX10_isAllowed_110 : decode cX10_isAllowed 110 = .ok (.iconst 1, 1) := by decide +kernel
theorem dX10_isAllowed_111 : decode cX10_isAllowed 111 = .ok (.sipush 999, 3) := by decide +kernel
theorem dX10_isAllowed_114 : decode cX10_isAllowed 114 = .ok (.invokestatic 63, 3) := by decide +kernel
theorem dX10_isAllowed_117 : decode cX10_isAllowed 117 = .ok (.ireturn, 1) := by decide +kernel
theorem dX10_isAllowed_118 : decode cX10_isAllowed 118 = .ok (.iload_n 1, 1) := by decide +kernel
theorem dX10_isAllowed_119 : decode cX10_isAllowed 119 = .ok (.ifCond .ne 7, 3) := by decide +kernel
theorem dX10_isAllowed_122 : decode cX10_isAllowed 122 = .ok (.iconst 1, 1) := by decide +kernel
theorem dX10_isAllowed_123 : decode cX10_isAllowed 123 = .ok (.goto 4, 3) := by decide +kernel
theorem dX10_isAllowed_126 : decode cX10_isAllowed 126 = .ok (.iconst 0, 1) := by decide +kernel
theorem dX10_isAllowed_127 : decode cX10_isAllowed 127 = .ok (.ireturn, 1) := by decide +kernel
theorem dX10_isAllowed_128 : decode cX10_isAllowed 128 = .ok (.iload_n 1, 1) := by decide +kernel
theorem dX10_isAllowed_129 : decode cX10_isAllowed 129 = .ok (.iconst 2, 1) := by decide +kernel
theorem dX10_isAllowed_130 : decode cX10_isAllowed 130 = .ok (.bipush 99, 2) := by decide +kernel
theorem dX10_isAllowed_132 : decode cX10_isAllowed 132 = .ok (.invokestatic 63, 3) := by decide +kernel
theorem dX10_isAllowed_135 : decode cX10_isAllowed 135 = .ok (.ireturn, 1) := by decide +kernel
theorem dX10_isAllowed_136 : decode cX10_isAllowed 136 = .ok (.iconst 0, 1) := by decide +kernel
theorem dX10_isAllowed_137 : decode cX10_isAllowed 137 = .ok (.ireturn, 1) := by decide +kernel
theorem dX10_inserts_0 : decode cX10_inserts 0 = .ok (.aload_n 0, 1) := by decide +kernel
theorem dX10_inserts_1 : decode cX10_inserts 1 = .ok (.getfield 16, 3) := by decide +kernel
theorem dX10_inserts_4 : decode cX10_inserts 4 = .ok (.iconst 0, 1) := by decide +kernel
theorem dX10_inserts_5 : decode cX10_inserts 5 = .ok (.iaload, 1) := by decide +kernel
theorem dX10_inserts_6 : decode cX10_inserts 6 = .ok (.istore 4, 2) := by decide +kernel
theorem dX10_inserts_8 : decode cX10_inserts 8 = .ok (.iload 4, 2) := by decide +kernel
theorem dX10_inserts_10 : decode cX10_inserts 10 = .ok (.iload_n 1, 1) := by decide +kernel
theorem dX10_inserts_11 : decode cX10_inserts 11 = .ok (.if_icmp .le 51, 3) := by decide +kernel
theorem dX10_inserts_14 : decode cX10_inserts 14 = .ok (.aload_n 0, 1) := by decide +kernel
theorem dX10_inserts_15 : decode cX10_inserts 15 = .ok (.getfield 16, 3) := by decide +kernel
theorem dX10_inserts_18 : decode cX10_inserts 18 = .ok (.iconst 5, 1) := by decide +kernel
theorem dX10_inserts_19 : decode cX10_inserts 19 = .ok (.iload 4, 2) := by decide +kernel
theorem dX10_inserts_21 : decode cX10_inserts 21 = .ok (.iadd, 1) := by decide +kernel
theorem dX10_inserts_22 : decode cX10_inserts 22 = .ok (.aload_n 0, 1) := by decide +kernel
theorem dX10_inserts_23 : decode cX10_inserts 23 = .ok (.getfield 16, 3) := by decide +kernel
theorem dX10_inserts_26 : decode cX10_inserts 26 = .ok (.iconst 5, 1) := by decide +kernel
theorem dX10_inserts_27 : decode cX10_inserts 27 = .ok (.iload 4, 2) := by decide +kernel
theorem dX10_inserts_29 : decode cX10_inserts 29 = .ok (.iadd, 1) := by decide +kernel
theorem dX10_inserts_30 : decode cX10_inserts 30 = .ok (.iconst 1, 1) := by decide +kernel
theorem dX10_inserts_31 : decode cX10_inserts 31 = .ok (.isub, 1) := by decide +kernel
theorem dX10_inserts_32 : decode cX10_inserts 32 = .ok (.iaload, 1) := by decide +kernel
theorem dX10_inserts_33 : decode cX10_inserts 33 = .ok (.iastore, 1) := by decide +kernel
theorem dX10_inserts_34 : decode cX10_inserts 34 = .ok (.aload_n 0, 1) := by decide +kernel
theorem dX10_inserts_35 : decode cX10_inserts 35 = .ok (.getfield 16, 3) := by decide +kernel
theorem dX10_inserts_38 : decode cX10_inserts 38 = .ok (.bipush 13, 2) := by decide +kernel
theorem dX10_inserts_40 : decode cX10_inserts 40 = .ok (.iload 4, 2) := by decide +kernel
theorem dX10_inserts_42 : decode cX10_inserts 42 = .ok (.iadd, 1) := by decide +kernel
theorem dX10_inserts_43 : decode cX10_inserts 43 = .ok (.aload_n 0, 1) := by decide +kernel
theorem dX10_inserts_44 : decode cX10_inserts 44 = .ok (.getfield 16, 3) := by decide +kernel
theorem dX10_inserts_47 : decode cX10_inserts 47 = .ok (.bipush 13, 2) := by decide +kernel
theorem dX10_inserts_49 : decode cX10_inserts 49 = .ok (.iload 4, 2) := by decide +kernel
theorem dX10_inserts_51 : decode cX10_inserts 51 = .ok (.iadd, 1) := by decide +kernel
theorem dX10_inserts_52 : decode cX10_inserts 52 = .ok (.iconst 1, 1) := by decide +kernel
theorem dX10_inserts_53 : decode cX10_inserts 53 = .ok (.isub, 1) := by decide +kernel
theorem dX10_inserts_54 : decode cX10_inserts 54 = .ok (.iaload, 1) := by decide +kernel
theorem dX10_inserts_55 : decode cX10_inserts 55 = .ok (.iastore, 1) := by decide +kernel
theorem dX10_inserts_56 : decode cX10_inserts 56 = .ok (.iinc 4 (-1), 3) := by decide +kernel
theorem dX10_inserts_59 : decode cX10_inserts 59 = .ok (.goto (-51), 3) := by decide +kernel
theorem dX10_inserts_62 : decode cX10_inserts 62 = .ok (.aload_n 0, 1) := by decide +kernel
theorem dX10_inserts_63 : decode cX10_inserts 63 = .ok (.getfield 16, 3) := by decide +kernel
theorem dX10_inserts_66 : decode cX10_inserts 66 = .ok (.iconst 5, 1) := by decide +kernel
theorem dX10_inserts_67 : decode cX10_inserts 67 = .ok (.iload_n 1, 1) := by decide +kernel
theorem dX10_inserts_68 : decode cX10_inserts 68 = .ok (.iadd, 1) := by decide +kernel
theorem dX10_inserts_69 : decode cX10_inserts 69 = .ok (.iload_n 2, 1) := by decide +kernel
theorem dX10_inserts_70 : decode cX10_inserts 70 = .ok (.iastore, 1) := by decide +kernel
theorem dX10_inserts_71 : decode cX10_inserts 71 = .ok (.aload_n 0, 1) := by decide +kernel
theorem dX10_inserts_72 : decode cX10_inserts 72 = .ok (.getfield 16, 3) := by decide +kernel
theorem dX10_inserts_75 : decode cX10_inserts 75 = .ok (.bipush 13, 2) := by decide +kernel
theorem dX10_inserts_77 : decode cX10_inserts 77 = .ok (.iload_n 1, 1) := by decide +kernel
theorem dX10_inserts_78 : decode cX10_inserts 78 = .ok (.iadd, 1) := by decide +kernel
theorem dX10_inserts_79 : decode cX10_inserts 79 = .ok (.iload_n 3, 1) := by decide +kernel
theorem dX10_inserts_80 : decode cX10_inserts 80 = .ok (.iastore, 1) := by decide +kernel
theorem dX10_inserts_81 : decode cX10_inserts 81 = .ok (.aload_n 0, 1) := by decide +kernel
theorem dX10_inserts_82 : decode cX10_inserts 82 = .ok (.getfield 16, 3) := by decide +kernel
theorem dX10_inserts_85 : decode cX10_inserts 85 = .ok (.iconst 0, 1) := by decide +kernel
theorem dX10_inserts_86 : decode cX10_inserts 86 = .ok (.dup2, 1) := by decide +kernel
theorem dX10_inserts_87 : decode cX10_inserts 87 = .ok (.iaload, 1) := by decide +kernel
theorem dX10_inserts_88 : decode cX10_inserts 88 = .ok (.iconst 1, 1) := by decide +kernel
theorem dX10_inserts_89 : decode cX10_inserts 89 = .ok (.iadd, 1) := by decide +kernel
theorem dX10_inserts_90 : decode cX10_inserts 90 = .ok (.iastore, 1) := by decide +kernel
theorem dX10_inserts_91 : decode cX10_inserts 91 = .ok (.aload_n 0, 1) := by decide +kernel
theorem dX10_inserts_92 : decode cX10_inserts 92 = .ok (.getfield 16, 3) := by decide +kernel
theorem dX10_inserts_95 : decode cX10_inserts 95 = .ok (.iconst 0, 1) := by decide +kernel
theorem dX10_inserts_96 : decode cX10_inserts 96 = .ok (.iaload, 1) := by decide +kernel
theorem dX10_inserts_97 : decode cX10_inserts 97 = .ok (.ireturn, 1) := by decide +kernel
theorem dX10_adds_0 : decode cX10_adds 0 = .ok (.iload_n 1, 1) := by decide +kernel
theorem dX10_adds_1 : decode cX10_adds 1 = .ok (.iload_n 2, 1) := by decide +kernel
theorem dX10_adds_2 : decode cX10_adds 2 = .ok (.invokestatic 67, 3) := by decide +kernel
theorem dX10_adds_5 : decode cX10_adds 5 = .ok (.ifCond .ne 9, 3) := by decide +kernel
theorem dX10_adds_8 : decode cX10_adds 8 = .ok (.aload_n 0, 1) := by decide +kernel
theorem dX10_adds_9 : decode cX10_adds 9 = .ok (.iconst 1, 1) := by decide +kernel
theorem dX10_adds_10 : decode cX10_adds 10 = .ok (.invokevirtual 71, 3) := by decide +kernel
theorem dX10_adds_13 : decode cX10_adds 13 = .ok (.ireturn, 1) := by decide +kernel
theorem dX10_adds_14 : decode cX10_adds 14 = .ok (.aload_n 0, 1) := by decide +kernel
theorem dX10_adds_15 : decode cX10_adds 15 = .ok (.getfield 16, 3) := by decide +kernel
theorem dX10_adds_18 : decode cX10_adds 18 = .ok (.iconst 0, 1) := by decide +kernel
theorem dX10_adds_19 : decode cX10_adds 19 = .ok (.iaload, 1) := by decide +kernel
theorem dX10_adds_20 : decode cX10_adds 20 = .ok (.bipush 8, 2) := by decide +kernel
theorem dX10_adds_22 : decode cX10_adds 22 = .ok (.if_icmp .ne 9, 3) := by decide +kernel
theorem dX10_adds_25 : decode cX10_adds 25 = .ok (.aload_n 0, 1) := by decide +kernel
theorem dX10_adds_26 : decode cX10_adds 26 = .ok (.iconst 2, 1) := by decide +kernel
theorem dX10_adds_27 : decode cX10_adds 27 = .ok (.invokevirtual 71, 3) := by decide +kernel
theorem dX10_adds_30 : decode cX10_adds 30 = .ok (.ireturn, 1) := by decide +kernel
theorem dX10_adds_31 : decode cX10_adds 31 = .ok (.aload_n 0, 1) := by decide +kernel
theorem dX10_adds_32 : decode cX10_adds 32 = .ok (.aload_n 0, 1) := by decide +kernel
theorem dX10_adds_33 : decode cX10_adds 33 = .ok (.getfield 16, 3) := by decide +kernel
theorem dX10_adds_36 : decode cX10_adds 36 = .ok (.iconst 0, 1) := by decide +kernel
theorem dX10_adds_37 : decode cX10_adds 37 = .ok (.iaload, 1) := by decide +kernel
theorem dX10_adds_38 : decode cX10_adds 38 = .ok (.iload_n 1, 1) := by decide +kernel
theorem dX10_adds_39 : decode cX10_adds 39 = .ok (.iload_n 2, 1) := by decide +kernel
theorem dX10_adds_40 : decode cX10_adds 40 = .ok (.invokevirtual 75, 3) := by decide +kernel
theorem dX10_adds_43 : decode cX10_adds 43 = .ok (.ireturn, 1) := by decide +kernel
theorem dX10_addFilter_0 : decode cX10_addFilter 0 = .ok (.aload_n 0, 1) := by decide +kernel
theorem dX10_addFilter_1 : decode cX10_addFilter 1 = .ok (.invokevirtual 79, 3) := by decide +kernel
theorem dX10_addFilter_4 : decode cX10_addFilter 4 = .ok (.aload_n 0, 1) := by decide +kernel
theorem dX10_addFilter_5 : decode cX10_addFilter 5 = .ok (.aload_n 0, 1) := by decide +kernel
theorem dX10_addFilter_6 : decode cX10_addFilter 6 = .ok (.iload_n 1, 1) := by decide +kernel
theorem dX10_addFilter_7 : decode cX10_addFilter 7 = .ok (.iload_n 2, 1) := by decide +kernel
theorem dX10_addFilter_8 : decode cX10_addFilter 8 = .ok (.invokevirtual 82, 3) := by decide +kernel
theorem dX10_addFilter_11 : decode cX10_addFilter 11 = .ok (.invokevirtual 86, 3) := by decide +kernel
theorem dX10_addFilter_14 : decode cX10_addFilter 14 = .ok (.ireturn, 1) := by decide +kernel
theorem dX10_puts_0 : decode cX10_puts 0 = .ok (.iload_n 1, 1) := by decide +kernel
theorem dX10_puts_1 : decode cX10_puts 1 = .ok (.iconst 0, 1) := by decide +kernel
theorem dX10_puts_2 : decode cX10_puts 2 = .ok (.aload_n 0, 1) := by decide +kernel
theorem dX10_puts_3 : decode cX10_puts 3 = .ok (.getfield 16, 3) := by decide +kernel
theorem dX10_puts_6 : decode cX10_puts 6 = .ok (.iconst 0, 1) := by decide +kernel
theorem dX10_puts_7 : decode cX10_puts 7 = .ok (.iaload, 1) := by decide +kernel
theorem dX10_puts_8 : decode cX10_puts 8 = .ok (.invokestatic 63, 3) := by decide +kernel
theorem dX10_puts_11 : decode cX10_puts 11 = .ok (.ifCond .ne 9, 3) := by decide +kernel
theorem dX10_puts_14 : decode cX10_puts 14 = .ok (.aload_n 0, 1) := by decide +kernel
theorem dX10_puts_15 : decode cX10_puts 15 = .ok (.iconst 1, 1) := by decide +kernel
theorem dX10_puts_16 : decode cX10_puts 16 = .ok (.invokevirtual 71, 3) := by decide +kernel
theorem dX10_puts_19 : decode cX10_puts 19 = .ok (.ireturn, 1) := by decide +kernel
theorem dX10_puts_20 : decode cX10_puts 20 = .ok (.iload_n 2, 1) := by decide +kernel
theorem dX10_puts_21 : decode cX10_puts 21 = .ok (.iload_n 3, 1) := by decide +kernel
theorem dX10_puts_22 : decode cX10_puts 22 = .ok (.invokestatic 67, 3) := by decide +kernel
theorem dX10_puts_25 : decode cX10_puts 25 = .ok (.ifCond .ne 9, 3) := by decide +kernel
theorem dX10_puts_28 : decode cX10_puts 28 = .ok (.aload_n 0, 1) := by decide +kernel
theorem dX10_puts_29 : decode cX10_puts 29 = .ok (.iconst 2, 1) := by decide +kernel
theorem dX10_puts_30 : decode cX10_puts 30 = .ok (.invokevirtual 71, 3) := by decide +kernel
theorem dX10_puts_33 : decode cX10_puts 33 = .ok (.ireturn, 1) := by decide +kernel
theorem dX10_puts_34 : decode cX10_puts 34 = .ok (.aload_n 0, 1) := by decide +kernel
theorem dX10_puts_35 : decode cX10_puts 35 = .ok (.getfield 16, 3) := by decide +kernel
theorem dX10_puts_38 : decode cX10_puts 38 = .ok (.iconst 0, 1) := by decide +kernel
theorem dX10_puts_39 : decode cX10_puts 39 = .ok (.iaload, 1) := by decide +kernel
theorem dX10_puts_40 : decode cX10_puts 40 = .ok (.bipush 8, 2) := by decide +kernel
theorem dX10_puts_42 : decode cX10_puts 42 = .ok (.if_icmp .ne 9, 3) := by decide +kernel
theorem dX10_puts_45 : decode cX10_puts 45 = .ok (.aload_n 0, 1) := by decide +kernel
theorem dX10_puts_46 : decode cX10_puts 46 = .ok (.iconst 3, 1) := by decide +kernel
theorem dX10_puts_47 : decode cX10_puts 47 = .ok (.invokevirtual 71, 3) := by decide +kernel
theorem dX10_puts_50 : decode cX10_puts 50 = .ok (.ireturn, 1) := by decide +kernel
theorem dX10_puts_51 : decode cX10_puts 51 = .ok (.aload_n 0, 1) := by decide +kernel
theorem dX10_puts_52 : decode cX10_puts 52 = .ok (.iload_n 1, 1) := by decide +kernel
theorem dX10_puts_53 : decode cX10_puts 53 = .ok (.iload_n 2, 1) := by decide +kernel
theorem dX10_puts_54 : decode cX10_puts 54 = .ok (.iload_n 3, 1) := by decide +kernel
theorem dX10_puts_55 : decode cX10_puts 55 = .ok (.invokevirtual 75, 3) := by decide +kernel
theorem dX10_puts_58 : decode cX10_puts 58 = .ok (.ireturn, 1) := by decide +kernel
theorem dX10_insertFilter_0 : decode cX10_insertFilter 0 = .ok (.aload_n 0, 1) := by decide +kernel
theorem dX10_insertFilter_1 : decode cX10_insertFilter 1 = .ok (.invokevirtual 79, 3) := by decide +kernel
theorem dX10_insertFilter_4 : decode cX10_insertFilter 4 = .ok (.aload_n 0, 1) := by decide +kernel
theorem dX10_insertFilter_5 : decode cX10_insertFilter 5 = .ok (.aload_n 0, 1) := by decide +kernel
theorem dX10_insertFilter_6 : decode cX10_insertFilter 6 = .ok (.iload_n 1, 1) := by decide +kernel
theorem dX10_insertFilter_7 : decode cX10_insertFilter 7 = .ok (.iload_n 2, 1) := by decide +kernel
theorem dX10_insertFilter_8 : decode cX10_insertFilter 8 = .ok (.iload_n 3, 1) := by decide +kernel
theorem dX10_insertFilter_9 : decode cX10_insertFilter 9 = .ok (.invokevirtual 89, 3) := by decide +kernel
theorem dX10_insertFilter_12 : decode cX10_insertFilter 12 = .ok (.invokevirtual 86, 3) := by decide +kernel
theorem dX10_insertFilter_15 : decode cX10_insertFilter 15 = .ok (.ireturn, 1) := by decide +kernel
theorem dX10_takes_0 : decode cX10_takes 0 = .ok (.aload_n 0, 1) := by decide +kernel
theorem dX10_takes_1 : decode cX10_takes 1 = .ok (.iload_n 1, 1) := by decide +kernel
theorem dX10_takes_2 : decode cX10_takes 2 = .ok (.invokevirtual 92, 3) := by decide +kernel
theorem dX10_takes_5 : decode cX10_takes 5 = .ok (.ifCond .ne 9, 3) := by decide +kernel
theorem dX10_takes_8 : decode cX10_takes 8 = .ok (.aload_n 0, 1) := by decide +kernel
theorem dX10_takes_9 : decode cX10_takes 9 = .ok (.iconst 1, 1) := by decide +kernel
theorem dX10_takes_10 : decode cX10_takes 10 = .ok (.invokevirtual 71, 3) := by decide +kernel
theorem dX10_takes_13 : decode cX10_takes 13 = .ok (.ireturn, 1) := by decide +kernel
theorem dX10_takes_14 : decode cX10_takes 14 = .ok (.aload_n 0, 1) := by decide +kernel
theorem dX10_takes_15 : decode cX10_takes 15 = .ok (.getfield 16, 3) := by decide +kernel
theorem dX10_takes_18 : decode cX10_takes 18 = .ok (.bipush 13, 2) := by decide +kernel
theorem dX10_takes_20 : decode cX10_takes 20 = .ok (.iload_n 1, 1) := by decide +kernel
theorem dX10_takes_21 : decode cX10_takes 21 = .ok (.iadd, 1) := by decide +kernel
theorem dX10_takes_22 : decode cX10_takes 22 = .ok (.iaload, 1) := by decide +kernel
theorem dX10_takes_23 : decode cX10_takes 23 = .ok (.istore_n 2, 1) := by decide +kernel
theorem dX10_takes_24 : decode cX10_takes 24 = .ok (.aload_n 0, 1) := by decide +kernel
theorem dX10_takes_25 : decode cX10_takes 25 = .ok (.getfield 16, 3) := by decide +kernel
theorem dX10_takes_28 : decode cX10_takes 28 = .ok (.iconst 0, 1) := by decide +kernel
theorem dX10_takes_29 : decode cX10_takes 29 = .ok (.dup2, 1) := by decide +kernel
theorem dX10_takes_30 : decode cX10_takes 30 = .ok (.iaload, 1) := by decide +kernel
theorem dX10_takes_31 : decode cX10_takes 31 = .ok (.iconst 1, 1) := by decide +kernel
theorem dX10_takes_32 : decode cX10_takes 32 = .ok (.isub, 1) := by decide +kernel
theorem dX10_takes_33 : decode cX10_takes 33 = .ok (.iastore, 1) := by decide +kernel
theorem dX10_takes_34 : decode cX10_takes 34 = .ok (.iload_n 1, 1) := by decide +kernel
theorem dX10_takes_35 : decode cX10_takes 35 = .ok (.istore_n 3, 1) := by decide +kernel
theorem dX10_takes_36 : decode cX10_takes 36 = .ok (.iload_n 3, 1) := by decide +kernel
theorem dX10_takes_37 : decode cX10_takes 37 = .ok (.aload_n 0, 1) := by decide +kernel
theorem dX10_takes_38 : decode cX10_takes 38 = .ok (.getfield 16, 3) := by decide +kernel
theorem dX10_takes_41 : decode cX10_takes 41 = .ok (.iconst 0, 1) := by decide +kernel
theorem dX10_takes_42 : decode cX10_takes 42 = .ok (.iaload, 1) := by decide +kernel
theorem dX10_takes_43 : decode cX10_takes 43 = .ok (.if_icmp .ge 47, 3) := by decide +kernel
theorem dX10_takes_46 : decode cX10_takes 46 = .ok (.aload_n 0, 1) := by decide +kernel
theorem dX10_takes_47 : decode cX10_takes 47 = .ok (.getfield 16, 3) := by decide +kernel
theorem dX10_takes_50 : decode cX10_takes 50 = .ok (.iconst 5, 1) := by decide +kernel
theorem dX10_takes_51 : decode cX10_takes 51 = .ok (.iload_n 3, 1) := by decide +kernel
theorem dX10_takes_52 : decode cX10_takes 52 = .ok (.iadd, 1) := by decide +kernel
theorem dX10_takes_53 : decode cX10_takes 53 = .ok (.aload_n 0, 1) := by decide +kernel
theorem dX10_takes_54 : decode cX10_takes 54 = .ok (.getfield 16, 3) := by decide +kernel
theorem dX10_takes_57 : decode cX10_takes 57 = .ok (.iconst 5, 1) := by decide +kernel
theorem dX10_takes_58 : decode cX10_takes 58 = .ok (.iload_n 3, 1) := by decide +kernel
theorem dX10_takes_59 : decode cX10_takes 59 = .ok (.iadd, 1) := by decide +kernel
theorem dX10_takes_60 : decode cX10_takes 60 = .ok (.iconst 1, 1) := by decide +kernel
theorem dX10_takes_61 : decode cX10_takes 61 = .ok (.iadd, 1) := by decide +kernel
theorem dX10_takes_62 : decode cX10_takes 62 = .ok (.iaload, 1) := by decide +kernel
theorem dX10_takes_63 : decode cX10_takes 63 = .ok (.iastore, 1) := by decide +kernel
theorem dX10_takes_64 : decode cX10_takes 64 = .ok (.aload_n 0, 1) := by decide +kernel
theorem dX10_takes_65 : decode cX10_takes 65 = .ok (.getfield 16, 3) := by decide +kernel
theorem dX10_takes_68 : decode cX10_takes 68 = .ok (.bipush 13, 2) := by decide +kernel
theorem dX10_takes_70 : decode cX10_takes 70 = .ok (.iload_n 3, 1) := by decide +kernel
theorem dX10_takes_71 : decode cX10_takes 71 = .ok (.iadd, 1) := by decide +kernel
theorem dX10_takes_72 : decode cX10_takes 72 = .ok (.aload_n 0, 1) := by decide +kernel
theorem dX10_takes_73 : decode cX10_takes 73 = .ok (.getfield 16, 3) := by decide +kernel
theorem dX10_takes_76 : decode cX10_takes 76 = .ok (.bipush 13, 2) := by decide +kernel
theorem dX10_takes_78 : decode cX10_takes 78 = .ok (.iload_n 3, 1) := by decide +kernel
theorem dX10_takes_79 : decode cX10_takes 79 = .ok (.iadd, 1) := by decide +kernel
theorem dX10_takes_80 : decode cX10_takes 80 = .ok (.iconst 1, 1) := by decide +kernel
theorem dX10_takes_81 : decode cX10_takes 81 = .ok (.iadd, 1) := by decide +kernel
theorem dX10_takes_82 : decode cX10_takes 82 = .ok (.iaload, 1) := by decide +kernel
theorem dX10_takes_83 : decode cX10_takes 83 = .ok (.iastore, 1) := by decide +kernel
theorem dX10_takes_84 : decode cX10_takes 84 = .ok (.iinc 3 1, 3) := by decide +kernel
theorem dX10_takes_87 : decode cX10_takes 87 = .ok (.goto (-51), 3) := by decide +kernel
theorem dX10_takes_90 : decode cX10_takes 90 = .ok (.aload_n 0, 1) := by decide +kernel
theorem dX10_takes_91 : decode cX10_takes 91 = .ok (.getfield 16, 3) := by decide +kernel
theorem dX10_takes_94 : decode cX10_takes 94 = .ok (.iconst 5, 1) := by decide +kernel
theorem dX10_takes_95 : decode cX10_takes 95 = .ok (.aload_n 0, 1) := by decide +kernel
theorem dX10_takes_96 : decode cX10_takes 96 = .ok (.getfield 16, 3) := by decide +kernel
theorem dX10_takes_99 : decode cX10_takes 99 = .ok (.iconst 0, 1) := by decide +kernel
theorem dX10_takes_100 : decode cX10_takes 100 = .ok (.iaload, 1) := by decide +kernel
theorem dX10_takes_101 : decode cX10_takes 101 = .ok (.iadd, 1) := by decide +kernel
theorem dX10_takes_102 : decode cX10_takes 102 = .ok (.iconst 0, 1) := by decide +kernel
theorem dX10_takes_103 : decode cX10_takes 103 = .ok (.iastore, 1) := by decide +kernel
theorem dX10_takes_104 : decode cX10_takes 104 = .ok (.aload_n 0, 1) := by decide +kernel
theorem dX10_takes_105 : decode cX10_takes 105 = .ok (.getfield 16, 3) := by decide +kernel
theorem dX10_takes_108 : decode cX10_takes 108 = .ok (.bipush 13, 2) := by decide +kernel
theorem dX10_takes_110 : decode cX10_takes 110 = .ok (.aload_n 0, 1) := by decide +kernel
theorem dX10_takes_111 : decode cX10_takes 111 = .ok (.getfield 16, 3) := by decide +kernel
theorem dX10_takes_114 : decode cX10_takes 114 = .ok (.iconst 0, 1) := by decide +kernel
theorem dX10_takes_115 : decode cX10_takes 115 = .ok (.iaload, 1) := by decide +kernel
theorem dX10_takes_116 : decode cX10_takes 116 = .ok (.iadd, 1) := by decide +kernel
theorem dX10_takes_117 : decode cX10_takes 117 = .ok (.iconst 0, 1) := by decide +kernel
theorem dX10_takes_118 : decode cX10_takes 118 = .ok (.iastore, 1) := by decide +kernel
theorem dX10_takes_119 : decode cX10_takes 119 = .ok (.iload_n 2, 1) := by decide +kernel
theorem dX10_takes_120 : decode cX10_takes 120 = .ok (.ireturn, 1) := by decide +kernel
theorem dX10_removeFilter_0 : decode cX10_removeFilter 0 = .ok (.aload_n 0, 1) := by decide +kernel
theorem dX10_removeFilter_1 : decode cX10_removeFilter 1 = .ok (.invokevirtual 79, 3) := by decide +kernel
theorem dX10_removeFilter_4 : decode cX10_removeFilter 4 = .ok (.aload_n 0, 1) := by decide +kernel
theorem dX10_removeFilter_5 : decode cX10_removeFilter 5 = .ok (.aload_n 0, 1) := by decide +kernel
theorem dX10_removeFilter_6 : decode cX10_removeFilter 6 = .ok (.iload_n 1, 1) := by decide +kernel
theorem dX10_removeFilter_7 : decode cX10_removeFilter 7 = .ok (.invokevirtual 96, 3) := by decide +kernel
theorem dX10_removeFilter_10 : decode cX10_removeFilter 10 = .ok (.invokevirtual 86, 3) := by decide +kernel
theorem dX10_removeFilter_13 : decode cX10_removeFilter 13 = .ok (.ireturn, 1) := by decide +kernel
theorem dX10_swaps_0 : decode cX10_swaps 0 = .ok (.aload_n 0, 1) := by decide +kernel
theorem dX10_swaps_1 : decode cX10_swaps 1 = .ok (.iload_n 1, 1) := by decide +kernel
theorem dX10_swaps_2 : decode cX10_swaps 2 = .ok (.invokevirtual 92, 3) := by decide +kernel
theorem dX10_swaps_5 : decode cX10_swaps 5 = .ok (.ifCond .eq 11, 3) := by decide +kernel
theorem dX10_swaps_8 : decode cX10_swaps 8 = .ok (.aload_n 0, 1) := by decide +kernel
theorem dX10_swaps_9 : decode cX10_swaps 9 = .ok (.iload_n 2, 1) := by decide +kernel
theorem dX10_swaps_10 : decode cX10_swaps 10 = .ok (.invokevirtual 92, 3) := by decide +kernel
theorem dX10_swaps_13 : decode cX10_swaps 13 = .ok (.ifCond .ne 9, 3) := by decide +kernel
theorem dX10_swaps_16 : decode cX10_swaps 16 = .ok (.aload_n 0, 1) := by decide +kernel
theorem dX10_swaps_17 : decode cX10_swaps 17 = .ok (.iconst 1, 1) := by decide +kernel
theorem dX10_swaps_18 : decode cX10_swaps 18 = .ok (.invokevirtual 71, 3) := by decide +kernel
theorem dX10_swaps_21 : decode cX10_swaps 21 = .ok (.ireturn, 1) := by decide +kernel
theorem dX10_swaps_22 : decode cX10_swaps 22 = .ok (.aload_n 0, 1) := by decide +kernel
theorem dX10_swaps_23 : decode cX10_swaps 23 = .ok (.getfield 16, 3) := by decide +kernel
theorem dX10_swaps_26 : decode cX10_swaps 26 = .ok (.iconst 5, 1) := by decide +kernel
theorem dX10_swaps_27 : decode cX10_swaps 27 = .ok (.iload_n 1, 1) := by decide +kernel
theorem dX10_swaps_28 : decode cX10_swaps 28 = .ok (.iadd, 1) := by decide +kernel
theorem dX10_swaps_29 : decode cX10_swaps 29 = .ok (.iaload, 1) := by decide +kernel
theorem dX10_swaps_30 : decode cX10_swaps 30 = .ok (.istore_n 3, 1) := by decide +kernel
theorem dX10_swaps_31 : decode cX10_swaps 31 = .ok (.aload_n 0, 1) := by decide +kernel
theorem dX10_swaps_32 : decode cX10_swaps 32 = .ok (.getfield 16, 3) := by decide +kernel
theorem dX10_swaps_35 : decode cX10_swaps 35 = .ok (.bipush 13, 2) := by decide +kernel
theorem dX10_swaps_37 : decode cX10_swaps 37 = .ok (.iload_n 1, 1) := by decide +kernel
theorem dX10_swaps_38 : decode cX10_swaps 38 = .ok (.iadd, 1) := by decide +kernel
theorem dX10_swaps_39 : decode cX10_swaps 39 = .ok (.iaload, 1) := by decide +kernel
theorem dX10_swaps_40 : decode cX10_swaps 40 = .ok (.istore 4, 2) := by decide +kernel
theorem dX10_swaps_42 : decode cX10_swaps 42 = .ok (.iload_n 1, 1) := by decide +kernel
theorem dX10_swaps_43 : decode cX10_swaps 43 = .ok (.iload_n 2, 1) := by decide +kernel
theorem dX10_swaps_44 : decode cX10_swaps 44 = .ok (.isub, 1) := by decide +kernel
theorem dX10_swaps_45 : decode cX10_swaps 45 = .ok (.invokestatic 99, 3) := by decide +kernel
theorem dX10_swaps_48 : decode cX10_swaps 48 = .ok (.istore 5, 2) := by decide +kernel
theorem dX10_swaps_50 : decode cX10_swaps 50 = .ok (.aload_n 0, 1) := by decide +kernel
theorem dX10_swaps_51 : decode cX10_swaps 51 = .ok (.getfield 16, 3) := by decide +kernel
theorem dX10_swaps_54 : decode cX10_swaps 54 = .ok (.iconst 5, 1) := by decide +kernel
theorem dX10_swaps_55 : decode cX10_swaps 55 = .ok (.iload_n 1, 1) := by decide +kernel
theorem dX10_swaps_56 : decode cX10_swaps 56 = .ok (.iadd, 1) := by decide +kernel
theorem dX10_swaps_57 : decode cX10_swaps 57 = .ok (.aload_n 0, 1) := by decide +kernel
theorem dX10_swaps_58 : decode cX10_swaps 58 = .ok (.getfield 16, 3) := by decide +kernel
theorem dX10_swaps_61 : decode cX10_swaps 61 = .ok (.iconst 5, 1) := by decide +kernel
theorem dX10_swaps_62 : decode cX10_swaps 62 = .ok (.iload_n 2, 1) := by decide +kernel
theorem dX10_swaps_63 : decode cX10_swaps 63 = .ok (.iadd, 1) := by decide +kernel
theorem dX10_swaps_64 : decode cX10_swaps 64 = .ok (.iaload, 1) := by decide +kernel
theorem dX10_swaps_65 : decode cX10_swaps 65 = .ok (.iastore, 1) := by decide +kernel
theorem dX10_swaps_66 : decode cX10_swaps 66 = .ok (.aload_n 0, 1) := by decide +kernel
theorem dX10_swaps_67 : decode cX10_swaps 67 = .ok (.getfield 16, 3) := by decide +kernel
theorem dX10_swaps_70 : decode cX10_swaps 70 = .ok (.bipush 13, 2) := by decide +kernel
theorem dX10_swaps_72 : decode cX10_swaps 72 = .ok (.iload_n 1, 1) := by decide +kernel
theorem dX10_swaps_73 : decode cX10_swaps 73 = .ok (.iadd, 1) := by decide +kernel
theorem dX10_swaps_74 : decode cX10_swaps 74 = .ok (.aload_n 0, 1) := by decide +kernel
theorem dX10_swaps_75 : decode cX10_swaps 75 = .ok (.getfield 16, 3) := by decide +kernel
theorem dX10_swaps_78 : decode cX10_swaps 78 = .ok (.bipush 13, 2) := by decide +kernel
theorem dX10_swaps_80 : decode cX10_swaps 80 = .ok (.iload_n 2, 1) := by decide +kernel
theorem dX10_swaps_81 : decode cX10_swaps 81 = .ok (.iadd, 1) := by decide +kernel
theorem dX10_swaps_82 : decode cX10_swaps 82 = .ok (.iaload, 1) := by decide +kernel
theorem dX10_swaps_83 : decode cX10_swaps 83 = .ok (.iastore, 1) := by decide +kernel
theorem dX10_swaps_84 : decode cX10_swaps 84 = .ok (.aload_n 0, 1) := by decide +kernel
theorem dX10_swaps_85 : decode cX10_swaps 85 = .ok (.getfield 16, 3) := by decide +kernel
theorem dX10_swaps_88 : decode cX10_swaps 88 = .ok (.iconst 5, 1) := by decide +kernel
theorem dX10_swaps_89 : decode cX10_swaps 89 = .ok (.iload_n 2, 1) := by decide +kernel
theorem dX10_swaps_90 : decode cX10_swaps 90 = .ok (.iadd, 1) := by decide +kernel
theorem dX10_swaps_91 : decode cX10_swaps 91 = .ok (.iload_n 3, 1) := by decide +kernel
theorem dX10_swaps_92 : decode cX10_swaps 92 = .ok (.iastore, 1) := by decide +kernel
theorem dX10_swaps_93 : decode cX10_swaps 93 = .ok (.aload_n 0, 1) := by decide +kernel
theorem dX10_swaps_94 : decode cX10_swaps 94 = .ok (.getfield 16, 3) := by decide +kernel
theorem dX10_swaps_97 : decode cX10_swaps 97 = .ok (.bipush 13, 2) := by decide +kernel
theorem dX10_swaps_99 : decode cX10_swaps 99 = .ok (.iload_n 2, 1) := by decide +kernel
theorem dX10_swaps_100 : decode cX10_swaps 100 = .ok (.iadd, 1) := by decide +kernel
theorem dX10_swaps_101 : decode cX10_swaps 101 = .ok (.iload 4, 2) := by decide +kernel
theorem dX10_swaps_103 : decode cX10_swaps 103 = .ok (.iastore, 1) := by decide +kernel
theorem dX10_swaps_104 : decode cX10_swaps 104 = .ok (.iload 5, 2) := by decide +kernel
theorem dX10_swaps_106 : decode cX10_swaps 106 = .ok (.ifCond .le 10, 3) := by decide +kernel
theorem dX10_swaps_109 : decode cX10_swaps 109 = .ok (.iload 5, 2) := by decide +kernel
theorem dX10_swaps_111 : decode cX10_swaps 111 = .ok (.iconst 1, 1) := by decide +kernel
theorem dX10_swaps_112 : decode cX10_swaps 112 = .ok (.isub, 1) := by decide +kernel
theorem dX10_swaps_113 : decode cX10_swaps 113 = .ok (.goto 4, 3) := by decide +kernel
theorem dX10_swaps_116 : decode cX10_swaps 116 = .ok (.iconst 0, 1) := by decide +kernel
theorem dX10_swaps_117 : decode cX10_swaps 117 = .ok (.ireturn, 1) := by decide +kernel
theorem dX10_swapFilters_0 : decode cX10_swapFilters 0 = .ok (.aload_n 0, 1) := by decide +kernel
theorem dX10_swapFilters_1 : decode cX10_swapFilters 1 = .ok (.invokevirtual 79, 3) := by decide +kernel
theorem dX10_swapFilters_4 : decode cX10_swapFilters 4 = .ok (.aload_n 0, 1) := by decide +kernel
theorem dX10_swapFilters_5 : decode cX10_swapFilters 5 = .ok (.aload_n 0, 1) := by decide +kernel
theorem dX10_swapFilters_6 : decode cX10_swapFilters 6 = .ok (.iload_n 1, 1) := by decide +kernel
theorem dX10_swapFilters_7 : decode cX10_swapFilters 7 = .ok (.iload_n 2, 1) := by decide +kernel
theorem dX10_swapFilters_8 : decode cX10_swapFilters 8 = .ok (.invokevirtual 102, 3) := by decide +kernel
theorem dX10_swapFilters_11 : decode cX10_swapFilters 11 = .ok (.invokevirtual 86, 3) := by decide +kernel
theorem dX10_swapFilters_14 : decode cX10_swapFilters 14 = .ok (.ireturn, 1) := by decide +kernel
theorem dX10_filterCount_0 : decode cX10_filterCount 0 = .ok (.aload_n 0, 1) := by decide +kernel
theorem dX10_filterCount_1 : decode cX10_filterCount 1 = .ok (.iconst 0, 1) := by decide +kernel
theorem dX10_filterCount_2 : decode cX10_filterCount 2 = .ok (.putfield 53, 3) := by decide +kernel
theorem dX10_filterCount_5 : decode cX10_filterCount 5 = .ok (.aload_n 0, 1) := by decide +kernel
theorem dX10_filterCount_6 : decode cX10_filterCount 6 = .ok (.getfield 16, 3) := by decide +kernel
theorem dX10_filterCount_9 : decode cX10_filterCount 9 = .ok (.iconst 0, 1) := by decide +kernel
theorem dX10_filterCount_10 : decode cX10_filterCount 10 = .ok (.iaload, 1) := by decide +kernel
theorem dX10_filterCount_11 : decode cX10_filterCount 11 = .ok (.ireturn, 1) := by decide +kernel
theorem dX10_filterKind_0 : decode cX10_filterKind 0 = .ok (.aload_n 0, 1) := by decide +kernel
theorem dX10_filterKind_1 : decode cX10_filterKind 1 = .ok (.aload_n 0, 1) := by decide +kernel
theorem dX10_filterKind_2 : decode cX10_filterKind 2 = .ok (.iload_n 1, 1) := by decide +kernel
theorem dX10_filterKind_3 : decode cX10_filterKind 3 = .ok (.invokevirtual 92, 3) := by decide +kernel
theorem dX10_filterKind_6 : decode cX10_filterKind 6 = .ok (.ifCond .eq 7, 3) := by decide +kernel
theorem dX10_filterKind_9 : decode cX10_filterKind 9 = .ok (.iconst 0, 1) := by decide +kernel
theorem dX10_filterKind_10 : decode cX10_filterKind 10 = .ok (.goto 4, 3) := by decide +kernel
theorem dX10_filterKind_13 : decode cX10_filterKind 13 = .ok (.iconst 1, 1) := by decide +kernel
theorem dX10_filterKind_14 : decode cX10_filterKind 14 = .ok (.putfield 53, 3) := by decide +kernel
theorem dX10_filterKind_17 : decode cX10_filterKind 17 = .ok (.aload_n 0, 1) := by decide +kernel
theorem dX10_filterKind_18 : decode cX10_filterKind 18 = .ok (.getfield 53, 3) := by decide +kernel
theorem dX10_filterKind_21 : decode cX10_filterKind 21 = .ok (.ifCond .ne 15, 3) := by decide +kernel
theorem dX10_filterKind_24 : decode cX10_filterKind 24 = .ok (.aload_n 0, 1) := by decide +kernel
theorem dX10_filterKind_25 : decode cX10_filterKind 25 = .ok (.getfield 16, 3) := by decide +kernel
theorem dX10_filterKind_28 : decode cX10_filterKind 28 = .ok (.iconst 5, 1) := by decide +kernel
theorem dX10_filterKind_29 : decode cX10_filterKind 29 = .ok (.iload_n 1, 1) := by decide +kernel
theorem dX10_filterKind_30 : decode cX10_filterKind 30 = .ok (.iadd, 1) := by decide +kernel
theorem dX10_filterKind_31 : decode cX10_filterKind 31 = .ok (.iaload, 1) := by decide +kernel
theorem dX10_filterKind_32 : decode cX10_filterKind 32 = .ok (.i2c, 1) := by decide +kernel
theorem dX10_filterKind_33 : decode cX10_filterKind 33 = .ok (.goto 5, 3) := by decide +kernel
theorem dX10_filterKind_36 : decode cX10_filterKind 36 = .ok (.bipush 97, 2) := by decide +kernel
theorem dX10_filterKind_38 : decode cX10_filterKind 38 = .ok (.ireturn, 1) := by decide +kernel
theorem dX10_filterParameter_0 : decode cX10_filterParameter 0 = .ok (.aload_n 0, 1) := by decide +kernel
theorem dX10_filterParameter_1 : decode cX10_filterParameter 1 = .ok (.aload_n 0, 1) := by decide +kernel
theorem dX10_filterParameter_2 : decode cX10_filterParameter 2 = .ok (.iload_n 1, 1) := by decide +kernel
theorem dX10_filterParameter_3 : decode cX10_filterParameter 3 = .ok (.invokevirtual 92, 3) := by decide +kernel
theorem dX10_filterParameter_6 : decode cX10_filterParameter 6 = .ok (.ifCond .eq 7, 3) := by decide +kernel
theorem dX10_filterParameter_9 : decode cX10_filterParameter 9 = .ok (.iconst 0, 1) := by decide +kernel
theorem dX10_filterParameter_10 : decode cX10_filterParameter 10 = .ok (.goto 4, 3) := by decide +kernel
theorem dX10_filterParameter_13 : decode cX10_filterParameter 13 = .ok (.iconst 1, 1) := by decide +kernel
theorem dX10_filterParameter_14 : decode cX10_filterParameter 14 = .ok (.putfield 53, 3) := by decide +kernel
theorem dX10_filterParameter_17 : decode cX10_filterParameter 17 = .ok (.aload_n 0, 1) := by decide +kernel
theorem dX10_filterParameter_18 : decode cX10_filterParameter 18 = .ok (.getfield 53, 3) := by decide +kernel
theorem dX10_filterParameter_21 : decode cX10_filterParameter 21 = .ok (.ifCond .ne 15, 3) := by decide +kernel
theorem dX10_filterParameter_24 : decode cX10_filterParameter 24 = .ok (.aload_n 0, 1) := by decide +kernel
theorem dX10_filterParameter_25 : decode cX10_filterParameter 25 = .ok (.getfield 16, 3) := by decide +kernel
theorem dX10_filterParameter_28 : decode cX10_filterParameter 28 = .ok (.bipush 13, 2) := by decide +kernel
theorem dX10_filterParameter_30 : decode cX10_filterParameter 30 = .ok (.iload_n 1, 1) := by decide +kernel
theorem dX10_filterParameter_31 : decode cX10_filterParameter 31 = .ok (.iadd, 1) := by decide +kernel
theorem dX10_filterParameter_32 : decode cX10_filterParameter 32 = .ok (.iaload, 1) := by decide +kernel
theorem dX10_filterParameter_33 : decode cX10_filterParameter 33 = .ok (.goto 4, 3) := by decide +kernel
theorem dX10_filterParameter_36 : decode cX10_filterParameter 36 = .ok (.iconst 0, 1) := by decide +kernel
theorem dX10_filterParameter_37 : decode cX10_filterParameter 37 = .ok (.ireturn, 1) := by decide +kernel
theorem dX10_notes_0 : decode cX10_notes 0 = .ok (.iload_n 1, 1) := by decide +kernel
theorem dX10_notes_1 : decode cX10_notes 1 = .ok (.invokestatic 105, 3) := by decide +kernel
theorem dX10_notes_4 : decode cX10_notes 4 = .ok (.ifCond .ne 9, 3) := by decide +kernel
theorem dX10_notes_7 : decode cX10_notes 7 = .ok (.aload_n 0, 1) := by decide +kernel
theorem dX10_notes_8 : decode cX10_notes 8 = .ok (.iconst 1, 1) := by decide +kernel
theorem dX10_notes_9 : decode cX10_notes 9 = .ok (.invokevirtual 71, 3) := by decide +kernel
theorem dX10_notes_12 : decode cX10_notes 12 = .ok (.ireturn, 1) := by decide +kernel
theorem dX10_notes_13 : decode cX10_notes 13 = .ok (.iload_n 2, 1) := by decide +kernel
theorem dX10_notes_14 : decode cX10_notes 14 = .ok (.iconst 2, 1) := by decide +kernel
theorem dX10_notes_15 : decode cX10_notes 15 = .ok (.bipush 20, 2) := by decide +kernel
theorem dX10_notes_17 : decode cX10_notes 17 = .ok (.invokestatic 63, 3) := by decide +kernel
theorem dX10_notes_20 : decode cX10_notes 20 = .ok (.ifCond .eq 25, 3) := by decide +kernel
theorem dX10_notes_23 : decode cX10_notes 23 = .ok (.iload_n 3, 1) := by decide +kernel
theorem dX10_notes_24 : decode cX10_notes 24 = .ok (.iconst 1, 1) := by decide +kernel
theorem dX10_notes_25 : decode cX10_notes 25 = .ok (.sipush 999, 3) := by decide +kernel
theorem dX10_notes_28 : decode cX10_notes 28 = .ok (.invokestatic 63, 3) := by decide +kernel
theorem dX10_notes_31 : decode cX10_notes 31 = .ok (.ifCond .eq 14, 3) := by decide +kernel
theorem dX10_notes_34 : decode cX10_notes 34 = .ok (.iload 4, 2) := by decide +kernel
theorem dX10_notes_36 : decode cX10_notes 36 = .ok (.iconst 1, 1) := by decide +kernel
theorem dX10_notes_37 : decode cX10_notes 37 = .ok (.bipush 40, 2) := by decide +kernel
theorem dX10_notes_39 : decode cX10_notes 39 = .ok (.invokestatic 63, 3) := by decide +kernel
theorem dX10_notes_42 : decode cX10_notes 42 = .ok (.ifCond .ne 9, 3) := by decide +kernel
theorem dX10_notes_45 : decode cX10_notes 45 = .ok (.aload_n 0, 1) := by decide +kernel
theorem dX10_notes_46 : decode cX10_notes 46 = .ok (.iconst 2, 1) := by decide +kernel
theorem dX10_notes_47 : decode cX10_notes 47 = .ok (.invokevirtual 71, 3) := by decide +kernel
theorem dX10_notes_50 : decode cX10_notes 50 = .ok (.ireturn, 1) := by decide +kernel
theorem dX10_notes_51 : decode cX10_notes 51 = .ok (.aload_n 0, 1) := by decide +kernel
theorem dX10_notes_52 : decode cX10_notes 52 = .ok (.getfield 16, 3) := by decide +kernel
theorem dX10_notes_55 : decode cX10_notes 55 = .ok (.bipush 25, 2) := by decide +kernel
theorem dX10_notes_57 : decode cX10_notes 57 = .ok (.iload_n 1, 1) := by decide +kernel
theorem dX10_notes_58 : decode cX10_notes 58 = .ok (.iadd, 1) := by decide +kernel
theorem dX10_notes_59 : decode cX10_notes 59 = .ok (.iaload, 1) := by decide +kernel
theorem dX10_notes_60 : decode cX10_notes 60 = .ok (.istore 5, 2) := by decide +kernel
theorem dX10_notes_62 : decode cX10_notes 62 = .ok (.iload 5, 2) := by decide +kernel
theorem dX10_notes_64 : decode cX10_notes 64 = .ok (.iload 4, 2) := by decide +kernel
theorem dX10_notes_66 : decode cX10_notes 66 = .ok (.iadd, 1) := by decide +kernel
theorem dX10_notes_67 : decode cX10_notes 67 = .ok (.sipush 160, 3) := by decide +kernel
theorem dX10_notes_70 : decode cX10_notes 70 = .ok (.if_icmp .le 9, 3) := by decide +kernel
theorem dX10_notes_73 : decode cX10_notes 73 = .ok (.aload_n 0, 1) := by decide +kernel
theorem dX10_notes_74 : decode cX10_notes 74 = .ok (.iconst 3, 1) := by decide +kernel
theorem dX10_notes_75 : decode cX10_notes 75 = .ok (.invokevirtual 71, 3) := by decide +kernel
theorem dX10_notes_78 : decode cX10_notes 78 = .ok (.ireturn, 1) := by decide +kernel
theorem dX10_notes_79 : decode cX10_notes 79 = .ok (.iconst 0, 1) := by decide +kernel
theorem dX10_notes_80 : decode cX10_notes 80 = .ok (.istore 6, 2) := by decide +kernel
theorem dX10_notes_82 : decode cX10_notes 82 = .ok (.iload 6, 2) := by decide +kernel
theorem dX10_notes_84 : decode cX10_notes 84 = .ok (.iload 4, 2) := by decide +kernel
theorem dX10_notes_86 : decode cX10_notes 86 = .ok (.if_icmp .ge 44, 3) := by decide +kernel
theorem dX10_notes_89 : decode cX10_notes 89 = .ok (.aload_n 0, 1) := by decide +kernel
theorem dX10_notes_90 : decode cX10_notes 90 = .ok (.getfield 16, 3) := by decide +kernel
theorem dX10_notes_93 : decode cX10_notes 93 = .ok (.bipush 77, 2) := by decide +kernel
theorem dX10_notes_95 : decode cX10_notes 95 = .ok (.sipush 160, 3) := by decide +kernel
theorem dX10_notes_98 : decode cX10_notes 98 = .ok (.iload_n 1, 1) := by decide +kernel
theorem dX10_notes_99 : decode cX10_notes 99 = .ok (.imul, 1) := by decide +kernel
theorem dX10_notes_100 : decode cX10_notes 100 = .ok (.iadd, 1) := by decide +kernel
theorem dX10_notes_101 : decode cX10_notes 101 = .ok (.iload 5, 2) := by decide +kernel
theorem dX10_notes_103 : decode cX10_notes 103 = .ok (.iadd, 1) := by decide +kernel
theorem dX10_notes_104 : decode cX10_notes 104 = .ok (.iload 6, 2) := by decide +kernel
theorem dX10_notes_106 : decode cX10_notes 106 = .ok (.iadd, 1) := by decide +kernel
theorem dX10_notes_107 : decode cX10_notes 107 = .ok (.iload 6, 2) := by decide +kernel
theorem dX10_notes_109 : decode cX10_notes 109 = .ok (.iload_n 2, 1) := by decide +kernel
theorem dX10_notes_110 : decode cX10_notes 110 = .ok (.irem, 1) := by decide +kernel
theorem dX10_notes_111 : decode cX10_notes 111 = .ok (.iload_n 2, 1) := by decide +kernel
theorem dX10_notes_112 : decode cX10_notes 112 = .ok (.iconst 2, 1) := by decide +kernel
theorem dX10_notes_113 : decode cX10_notes 113 = .ok (.idiv, 1) := by decide +kernel
theorem dX10_notes_114 : decode cX10_notes 114 = .ok (.if_icmp .ge 7, 3) := by decide +kernel
theorem dX10_notes_117 : decode cX10_notes 117 = .ok (.iload_n 3, 1) := by decide +kernel
theorem dX10_notes_118 : decode cX10_notes 118 = .ok (.goto 5, 3) := by decide +kernel
theorem dX10_notes_121 : decode cX10_notes 121 = .ok (.iload_n 3, 1) := by decide +kernel
theorem dX10_notes_122 : decode cX10_notes 122 = .ok (.ineg, 1) := by decide +kernel
theorem dX10_notes_123 : decode cX10_notes 123 = .ok (.iastore, 1) := by decide +kernel
theorem dX10_notes_124 : decode cX10_notes 124 = .ok (.iinc 6 1, 3) := by decide +kernel
theorem dX10_notes_127 : decode cX10_notes 127 = .ok (.goto (-45), 3) := by decide +kernel
theorem dX10_notes_130 : decode cX10_notes 130 = .ok (.aload_n 0, 1) := by decide +kernel
theorem dX10_notes_131 : decode cX10_notes 131 = .ok (.getfield 16, 3) := by decide +kernel
theorem dX10_notes_134 : decode cX10_notes 134 = .ok (.sipush 717, 3) := by decide +kernel
theorem dX10_notes_137 : decode cX10_notes 137 = .ok (.sipush 160, 3) := by decide +kernel
theorem dX10_notes_140 : decode cX10_notes 140 = .ok (.iload_n 1, 1) := by decide +kernel
theorem dX10_notes_141 : decode cX10_notes 141 = .ok (.imul, 1) := by decide +kernel
theorem dX10_notes_142 : decode cX10_notes 142 = .ok (.iadd, 1) := by decide +kernel
theorem dX10_notes_143 : decode cX10_notes 143 = .ok (.aload_n 0, 1) := by decide +kernel
theorem dX10_notes_144 : decode cX10_notes 144 = .ok (.getfield 16, 3) := by decide +kernel
theorem dX10_notes_147 : decode cX10_notes 147 = .ok (.bipush 21, 2) := by decide +kernel
theorem dX10_notes_149 : decode cX10_notes 149 = .ok (.iload_n 1, 1) := by decide +kernel
theorem dX10_notes_150 : decode cX10_notes 150 = .ok (.iadd, 1) := by decide +kernel
theorem dX10_notes_151 : decode cX10_notes 151 = .ok (.iaload, 1) := by decide +kernel
theorem dX10_notes_152 : decode cX10_notes 152 = .ok (.iadd, 1) := by decide +kernel
theorem dX10_notes_153 : decode cX10_notes 153 = .ok (.iload 4, 2) := by decide +kernel
theorem dX10_notes_155 : decode cX10_notes 155 = .ok (.iastore, 1) := by decide +kernel
theorem dX10_notes_156 : decode cX10_notes 156 = .ok (.aload_n 0, 1) := by decide +kernel
theorem dX10_notes_157 : decode cX10_notes 157 = .ok (.getfield 16, 3) := by decide +kernel
theorem dX10_notes_160 : decode cX10_notes 160 = .ok (.bipush 21, 2) := by decide +kernel
theorem dX10_notes_162 : decode cX10_notes 162 = .ok (.iload_n 1, 1) := by decide +kernel
theorem dX10_notes_163 : decode cX10_notes 163 = .ok (.iadd, 1) := by decide +kernel
theorem dX10_notes_164 : decode cX10_notes 164 = .ok (.dup2, 1) := by decide +kernel
theorem dX10_notes_165 : decode cX10_notes 165 = .ok (.iaload, 1) := by decide +kernel
theorem dX10_notes_166 : decode cX10_notes 166 = .ok (.iconst 1, 1) := by decide +kernel
theorem dX10_notes_167 : decode cX10_notes 167 = .ok (.iadd, 1) := by decide +kernel
theorem dX10_notes_168 : decode cX10_notes 168 = .ok (.iastore, 1) := by decide +kernel
theorem dX10_notes_169 : decode cX10_notes 169 = .ok (.aload_n 0, 1) := by decide +kernel
theorem dX10_notes_170 : decode cX10_notes 170 = .ok (.getfield 16, 3) := by decide +kernel
theorem dX10_notes_173 : decode cX10_notes 173 = .ok (.bipush 25, 2) := by decide +kernel
theorem dX10_notes_175 : decode cX10_notes 175 = .ok (.iload_n 1, 1) := by decide +kernel
theorem dX10_notes_176 : decode cX10_notes 176 = .ok (.iadd, 1) := by decide +kernel
theorem dX10_notes_177 : decode cX10_notes 177 = .ok (.dup2, 1) := by decide +kernel
theorem dX10_notes_178 : decode cX10_notes 178 = .ok (.iaload, 1) := by decide +kernel
theorem dX10_notes_179 : decode cX10_notes 179 = .ok (.iload 4, 2) := by decide +kernel
theorem dX10_notes_181 : decode cX10_notes 181 = .ok (.iadd, 1) := by decide +kernel
theorem dX10_notes_182 : decode cX10_notes 182 = .ok (.iastore, 1) := by decide +kernel
theorem dX10_notes_183 : decode cX10_notes 183 = .ok (.aload_n 0, 1) := by decide +kernel
theorem dX10_notes_184 : decode cX10_notes 184 = .ok (.getfield 16, 3) := by decide +kernel
theorem dX10_notes_187 : decode cX10_notes 187 = .ok (.bipush 25, 2) := by decide +kernel
theorem dX10_notes_189 : decode cX10_notes 189 = .ok (.iload_n 1, 1) := by decide +kernel
theorem dX10_notes_190 : decode cX10_notes 190 = .ok (.iadd, 1) := by decide +kernel
theorem dX10_notes_191 : decode cX10_notes 191 = .ok (.iaload, 1) := by decide +kernel
theorem dX10_notes_192 : decode cX10_notes 192 = .ok (.ireturn, 1) := by decide +kernel
theorem dX10_addNote_0 : decode cX10_addNote 0 = .ok (.aload_n 0, 1) := by decide +kernel
theorem dX10_addNote_1 : decode cX10_addNote 1 = .ok (.invokevirtual 79, 3) := by decide +kernel
theorem dX10_addNote_4 : decode cX10_addNote 4 = .ok (.aload_n 0, 1) := by decide +kernel
theorem dX10_addNote_5 : decode cX10_addNote 5 = .ok (.aload_n 0, 1) := by decide +kernel
theorem dX10_addNote_6 : decode cX10_addNote 6 = .ok (.iload_n 1, 1) := by decide +kernel
theorem dX10_addNote_7 : decode cX10_addNote 7 = .ok (.iload_n 2, 1) := by decide +kernel
theorem dX10_addNote_8 : decode cX10_addNote 8 = .ok (.iload_n 3, 1) := by decide +kernel
theorem dX10_addNote_9 : decode cX10_addNote 9 = .ok (.iload 4, 2) := by decide +kernel
theorem dX10_addNote_11 : decode cX10_addNote 11 = .ok (.invokevirtual 108, 3) := by decide +kernel
theorem dX10_addNote_14 : decode cX10_addNote 14 = .ok (.invokevirtual 86, 3) := by decide +kernel
theorem dX10_addNote_17 : decode cX10_addNote 17 = .ok (.ireturn, 1) := by decide +kernel
theorem dX10_takesNote_0 : decode cX10_takesNote 0 = .ok (.iload_n 1, 1) := by decide +kernel
theorem dX10_takesNote_1 : decode cX10_takesNote 1 = .ok (.invokestatic 105, 3) := by decide +kernel
theorem dX10_takesNote_4 : decode cX10_takesNote 4 = .ok (.ifCond .ne 9, 3) := by decide +kernel
theorem dX10_takesNote_7 : decode cX10_takesNote 7 = .ok (.aload_n 0, 1) := by decide +kernel
theorem dX10_takesNote_8 : decode cX10_takesNote 8 = .ok (.iconst 1, 1) := by decide +kernel
theorem dX10_takesNote_9 : decode cX10_takesNote 9 = .ok (.invokevirtual 71, 3) := by decide +kernel
theorem dX10_takesNote_12 : decode cX10_takesNote 12 = .ok (.ireturn, 1) := by decide +kernel
theorem dX10_takesNote_13 : decode cX10_takesNote 13 = .ok (.aload_n 0, 1) := by decide +kernel
theorem dX10_takesNote_14 : decode cX10_takesNote 14 = .ok (.getfield 16, 3) := by decide +kernel
theorem dX10_takesNote_17 : decode cX10_takesNote 17 = .ok (.bipush 21, 2) := by decide +kernel
theorem dX10_takesNote_19 : decode cX10_takesNote 19 = .ok (.iload_n 1, 1) := by decide +kernel
theorem dX10_takesNote_20 : decode cX10_takesNote 20 = .ok (.iadd, 1) := by decide +kernel
theorem dX10_takesNote_21 : decode cX10_takesNote 21 = .ok (.iaload, 1) := by decide +kernel
theorem dX10_takesNote_22 : decode cX10_takesNote 22 = .ok (.ifCond .ne 9, 3) := by decide +kernel
theorem dX10_takesNote_25 : decode cX10_takesNote 25 = .ok (.aload_n 0, 1) := by decide +kernel
theorem dX10_takesNote_26 : decode cX10_takesNote 26 = .ok (.iconst 2, 1) := by decide +kernel
theorem dX10_takesNote_27 : decode cX10_takesNote 27 = .ok (.invokevirtual 71, 3) := by decide +kernel
theorem dX10_takesNote_30 : decode cX10_takesNote 30 = .ok (.ireturn, 1) := by decide +kernel
theorem dX10_takesNote_31 : decode cX10_takesNote 31 = .ok (.aload_n 0, 1) := by decide +kernel
theorem dX10_takesNote_32 : decode cX10_takesNote 32 = .ok (.getfield 16, 3) := by decide +kernel
theorem dX10_takesNote_35 : decode cX10_takesNote 35 = .ok (.bipush 21, 2) := by decide +kernel
theorem dX10_takesNote_37 : decode cX10_takesNote 37 = .ok (.iload_n 1, 1) := by decide +kernel
theorem dX10_takesNote_38 : decode cX10_takesNote 38 = .ok (.iadd, 1) := by decide +kernel
theorem dX10_takesNote_39 : decode cX10_takesNote 39 = .ok (.dup2, 1) := by decide +kernel
theorem dX10_takesNote_40 : decode cX10_takesNote 40 = .ok (.iaload, 1) := by decide +kernel
theorem dX10_takesNote_41 : decode cX10_takesNote 41 = .ok (.iconst 1, 1) := by decide +kernel
theorem dX10_takesNote_42 : decode cX10_takesNote 42 = .ok (.isub, 1) := by decide +kernel
theorem dX10_takesNote_43 : decode cX10_takesNote 43 = .ok (.iastore, 1) := by decide +kernel
theorem dX10_takesNote_44 : decode cX10_takesNote 44 = .ok (.sipush 717, 3) := by decide +kernel
theorem dX10_takesNote_47 : decode cX10_takesNote 47 = .ok (.sipush 160, 3) := by decide +kernel
theorem dX10_takesNote_50 : decode cX10_takesNote 50 = .ok (.iload_n 1, 1) := by decide +kernel
theorem dX10_takesNote_51 : decode cX10_takesNote 51 = .ok (.imul, 1) := by decide +kernel
theorem dX10_takesNote_52 : decode cX10_takesNote 52 = .ok (.iadd, 1) := by decide +kernel
theorem dX10_takesNote_53 : decode cX10_takesNote 53 = .ok (.aload_n 0, 1) := by decide +kernel
theorem dX10_takesNote_54 : decode cX10_takesNote 54 = .ok (.getfield 16, 3) := by decide +kernel
theorem dX10_takesNote_57 : decode cX10_takesNote 57 = .ok (.bipush 21, 2) := by decide +kernel
theorem dX10_takesNote_59 : decode cX10_takesNote 59 = .ok (.iload_n 1, 1) := by decide +kernel
theorem dX10_takesNote_60 : decode cX10_takesNote 60 = .ok (.iadd, 1) := by decide +kernel
theorem dX10_takesNote_61 : decode cX10_takesNote 61 = .ok (.iaload, 1) := by decide +kernel
theorem dX10_takesNote_62 : decode cX10_takesNote 62 = .ok (.iadd, 1) := by decide +kernel
theorem dX10_takesNote_63 : decode cX10_takesNote 63 = .ok (.istore_n 2, 1) := by decide +kernel
theorem dX10_takesNote_64 : decode cX10_takesNote 64 = .ok (.aload_n 0, 1) := by decide +kernel
theorem dX10_takesNote_65 : decode cX10_takesNote 65 = .ok (.getfield 16, 3) := by decide +kernel
theorem dX10_takesNote_68 : decode cX10_takesNote 68 = .ok (.bipush 25, 2) := by decide +kernel
theorem dX10_takesNote_70 : decode cX10_takesNote 70 = .ok (.iload_n 1, 1) := by decide +kernel
theorem dX10_takesNote_71 : decode cX10_takesNote 71 = .ok (.iadd, 1) := by decide +kernel
theorem dX10_takesNote_72 : decode cX10_takesNote 72 = .ok (.dup2, 1) := by decide +kernel
theorem dX10_takesNote_73 : decode cX10_takesNote 73 = .ok (.iaload, 1) := by decide +kernel
theorem dX10_takesNote_74 : decode cX10_takesNote 74 = .ok (.aload_n 0, 1) := by decide +kernel
theorem dX10_takesNote_75 : decode cX10_takesNote 75 = .ok (.getfield 16, 3) := by decide +kernel
theorem dX10_takesNote_78 : decode cX10_takesNote 78 = .ok (.iload_n 2, 1) := by decide +kernel
theorem dX10_takesNote_79 : decode cX10_takesNote 79 = .ok (.iaload, 1) := by decide +kernel
theorem dX10_takesNote_80 : decode cX10_takesNote 80 = .ok (.isub, 1) := by decide +kernel
theorem dX10_takesNote_81 : decode cX10_takesNote 81 = .ok (.iastore, 1) := by decide +kernel
theorem dX10_takesNote_82 : decode cX10_takesNote 82 = .ok (.aload_n 0, 1) := by decide +kernel
theorem dX10_takesNote_83 : decode cX10_takesNote 83 = .ok (.getfield 16, 3) := by decide +kernel
theorem dX10_takesNote_86 : decode cX10_takesNote 86 = .ok (.iload_n 2, 1) := by decide +kernel
theorem dX10_takesNote_87 : decode cX10_takesNote 87 = .ok (.iconst 0, 1) := by decide +kernel
theorem dX10_takesNote_88 : decode cX10_takesNote 88 = .ok (.iastore, 1) := by decide +kernel
theorem dX10_takesNote_89 : decode cX10_takesNote 89 = .ok (.aload_n 0, 1) := by decide +kernel
theorem dX10_takesNote_90 : decode cX10_takesNote 90 = .ok (.getfield 16, 3) := by decide +kernel
theorem dX10_takesNote_93 : decode cX10_takesNote 93 = .ok (.bipush 25, 2) := by decide +kernel
theorem dX10_takesNote_95 : decode cX10_takesNote 95 = .ok (.iload_n 1, 1) := by decide +kernel
theorem dX10_takesNote_96 : decode cX10_takesNote 96 = .ok (.iadd, 1) := by decide +kernel
theorem dX10_takesNote_97 : decode cX10_takesNote 97 = .ok (.iaload, 1) := by decide +kernel
theorem dX10_takesNote_98 : decode cX10_takesNote 98 = .ok (.istore_n 3, 1) := by decide +kernel
theorem dX10_takesNote_99 : decode cX10_takesNote 99 = .ok (.iload_n 3, 1) := by decide +kernel
theorem dX10_takesNote_100 : decode cX10_takesNote 100 = .ok (.sipush 160, 3) := by decide +kernel
theorem dX10_takesNote_103 : decode cX10_takesNote 103 = .ok (.if_icmp .ge 25, 3) := by decide +kernel
theorem dX10_takesNote_106 : decode cX10_takesNote 106 = .ok (.aload_n 0, 1) := by decide +kernel
theorem dX10_takesNote_107 : decode cX10_takesNote 107 = .ok (.getfield 16, 3) := by decide +kernel
theorem dX10_takesNote_110 : decode cX10_takesNote 110 = .ok (.bipush 77, 2) := by decide +kernel
theorem dX10_takesNote_112 : decode cX10_takesNote 112 = .ok (.sipush 160, 3) := by decide +kernel
theorem dX10_takesNote_115 : decode cX10_takesNote 115 = .ok (.iload_n 1, 1) := by decide +kernel
theorem dX10_takesNote_116 : decode cX10_takesNote 116 = .ok (.imul, 1) := by decide +kernel
theorem dX10_takesNote_117 : decode cX10_takesNote 117 = .ok (.iadd, 1) := by decide +kernel
theorem dX10_takesNote_118 : decode cX10_takesNote 118 = .ok (.iload_n 3, 1) := by decide +kernel
theorem dX10_takesNote_119 : decode cX10_takesNote 119 = .ok (.iadd, 1) := by decide +kernel
theorem dX10_takesNote_120 : decode cX10_takesNote 120 = .ok (.iconst 0, 1) := by decide +kernel
theorem dX10_takesNote_121 : decode cX10_takesNote 121 = .ok (.iastore, 1) := by decide +kernel
theorem dX10_takesNote_122 : decode cX10_takesNote 122 = .ok (.iinc 3 1, 3) := by decide +kernel
theorem dX10_takesNote_125 : decode cX10_takesNote 125 = .ok (.goto (-26), 3) := by decide +kernel
theorem dX10_takesNote_128 : decode cX10_takesNote 128 = .ok (.aload_n 0, 1) := by decide +kernel
theorem dX10_takesNote_129 : decode cX10_takesNote 129 = .ok (.getfield 16, 3) := by decide +kernel
theorem dX10_takesNote_132 : decode cX10_takesNote 132 = .ok (.bipush 25, 2) := by decide +kernel
theorem dX10_takesNote_134 : decode cX10_takesNote 134 = .ok (.iload_n 1, 1) := by decide +kernel
theorem dX10_takesNote_135 : decode cX10_takesNote 135 = .ok (.iadd, 1) := by decide +kernel
theorem dX10_takesNote_136 : decode cX10_takesNote 136 = .ok (.iaload, 1) := by decide +kernel
theorem dX10_takesNote_137 : decode cX10_takesNote 137 = .ok (.ireturn, 1) := by decide +kernel
theorem dX10_removeNote_0 : decode cX10_removeNote 0 = .ok (.aload_n 0, 1) := by decide +kernel
theorem dX10_removeNote_1 : decode cX10_removeNote 1 = .ok (.invokevirtual 79, 3) := by decide +kernel
theorem dX10_removeNote_4 : decode cX10_removeNote 4 = .ok (.aload_n 0, 1) := by decide +kernel
theorem dX10_removeNote_5 : decode cX10_removeNote 5 = .ok (.aload_n 0, 1) := by decide +kernel
theorem dX10_removeNote_6 : decode cX10_removeNote 6 = .ok (.iload_n 1, 1) := by decide +kernel
theorem dX10_removeNote_7 : decode cX10_removeNote 7 = .ok (.invokevirtual 112, 3) := by decide +kernel
theorem dX10_removeNote_10 : decode cX10_removeNote 10 = .ok (.invokevirtual 86, 3) := by decide +kernel
theorem dX10_removeNote_13 : decode cX10_removeNote 13 = .ok (.ireturn, 1) := by decide +kernel
theorem dX10_tells_0 : decode cX10_tells 0 = .ok (.aload_n 0, 1) := by decide +kernel
theorem dX10_tells_1 : decode cX10_tells 1 = .ok (.iload_n 1, 1) := by decide +kernel
theorem dX10_tells_2 : decode cX10_tells 2 = .ok (.invokestatic 105, 3) := by decide +kernel
theorem dX10_tells_5 : decode cX10_tells 5 = .ok (.ifCond .eq 7, 3) := by decide +kernel
theorem dX10_tells_8 : decode cX10_tells 8 = .ok (.iconst 0, 1) := by decide +kernel
theorem dX10_tells_9 : decode cX10_tells 9 = .ok (.goto 4, 3) := by decide +kernel
theorem dX10_tells_12 : decode cX10_tells 12 = .ok (.iconst 1, 1) := by decide +kernel
theorem dX10_tells_13 : decode cX10_tells 13 = .ok (.putfield 53, 3) := by decide +kernel
theorem dX10_tells_16 : decode cX10_tells 16 = .ok (.aload_n 0, 1) := by decide +kernel
theorem dX10_tells_17 : decode cX10_tells 17 = .ok (.getfield 53, 3) := by decide +kernel
theorem dX10_tells_20 : decode cX10_tells 20 = .ok (.ifCond .ne 14, 3) := by decide +kernel
theorem dX10_tells_23 : decode cX10_tells 23 = .ok (.aload_n 0, 1) := by decide +kernel
theorem dX10_tells_24 : decode cX10_tells 24 = .ok (.getfield 16, 3) := by decide +kernel
theorem dX10_tells_27 : decode cX10_tells 27 = .ok (.iload_n 2, 1) := by decide +kernel
theorem dX10_tells_28 : decode cX10_tells 28 = .ok (.iload_n 1, 1) := by decide +kernel
theorem dX10_tells_29 : decode cX10_tells 29 = .ok (.iadd, 1) := by decide +kernel
theorem dX10_tells_30 : decode cX10_tells 30 = .ok (.iaload, 1) := by decide +kernel
theorem dX10_tells_31 : decode cX10_tells 31 = .ok (.goto 4, 3) := by decide +kernel
theorem dX10_tells_34 : decode cX10_tells 34 = .ok (.iconst 0, 1) := by decide +kernel
theorem dX10_tells_35 : decode cX10_tells 35 = .ok (.ireturn, 1) := by decide +kernel
theorem dX10_noteCount_0 : decode cX10_noteCount 0 = .ok (.aload_n 0, 1) := by decide +kernel
theorem dX10_noteCount_1 : decode cX10_noteCount 1 = .ok (.iload_n 1, 1) := by decide +kernel
theorem dX10_noteCount_2 : decode cX10_noteCount 2 = .ok (.bipush 21, 2) := by decide +kernel
theorem dX10_noteCount_4 : decode cX10_noteCount 4 = .ok (.invokevirtual 115, 3) := by decide +kernel
theorem dX10_noteCount_7 : decode cX10_noteCount 7 = .ok (.ireturn, 1) := by decide +kernel
theorem dX10_songLength_0 : decode cX10_songLength 0 = .ok (.aload_n 0, 1) := by decide +kernel
theorem dX10_songLength_1 : decode cX10_songLength 1 = .ok (.iload_n 1, 1) := by decide +kernel
theorem dX10_songLength_2 : decode cX10_songLength 2 = .ok (.bipush 25, 2) := by decide +kernel
theorem dX10_songLength_4 : decode cX10_songLength 4 = .ok (.invokevirtual 115, 3) := by decide +kernel
theorem dX10_songLength_7 : decode cX10_songLength 7 = .ok (.ireturn, 1) := by decide +kernel
theorem dX10_isSample_0 : decode cX10_isSample 0 = .ok (.iload_n 2, 1) := by decide +kernel
theorem dX10_isSample_1 : decode cX10_isSample 1 = .ok (.iconst 0, 1) := by decide +kernel
theorem dX10_isSample_2 : decode cX10_isSample 2 = .ok (.aload_n 0, 1) := by decide +kernel
theorem dX10_isSample_3 : decode cX10_isSample 3 = .ok (.getfield 16, 3) := by decide +kernel
theorem dX10_isSample_6 : decode cX10_isSample 6 = .ok (.bipush 25, 2) := by decide +kernel
theorem dX10_isSample_8 : decode cX10_isSample 8 = .ok (.iload_n 1, 1) := by decide +kernel
theorem dX10_isSample_9 : decode cX10_isSample 9 = .ok (.iadd, 1) := by decide +kernel
theorem dX10_isSample_10 : decode cX10_isSample 10 = .ok (.iaload, 1) := by decide +kernel
theorem dX10_isSample_11 : decode cX10_isSample 11 = .ok (.iconst 1, 1) := by decide +kernel
theorem dX10_isSample_12 : decode cX10_isSample 12 = .ok (.isub, 1) := by decide +kernel
theorem dX10_isSample_13 : decode cX10_isSample 13 = .ok (.invokestatic 63, 3) := by decide +kernel
theorem dX10_isSample_16 : decode cX10_isSample 16 = .ok (.ireturn, 1) := by decide +kernel
theorem dX10_looks_0 : decode cX10_looks 0 = .ok (.aload_n 0, 1) := by decide +kernel
theorem dX10_looks_1 : decode cX10_looks 1 = .ok (.iload_n 1, 1) := by decide +kernel
theorem dX10_looks_2 : decode cX10_looks 2 = .ok (.invokestatic 105, 3) := by decide +kernel
theorem dX10_looks_5 : decode cX10_looks 5 = .ok (.ifCond .ne 7, 3) := by decide +kernel
theorem dX10_looks_8 : decode cX10_looks 8 = .ok (.iconst 1, 1) := by decide +kernel
theorem dX10_looks_9 : decode cX10_looks 9 = .ok (.goto 17, 3) := by decide +kernel
theorem dX10_looks_12 : decode cX10_looks 12 = .ok (.aload_n 0, 1) := by decide +kernel
theorem dX10_looks_13 : decode cX10_looks 13 = .ok (.iload_n 1, 1) := by decide +kernel
theorem dX10_looks_14 : decode cX10_looks 14 = .ok (.iload_n 2, 1) := by decide +kernel
theorem dX10_looks_15 : decode cX10_looks 15 = .ok (.invokevirtual 118, 3) := by decide +kernel
theorem dX10_looks_18 : decode cX10_looks 18 = .ok (.ifCond .eq 7, 3) := by decide +kernel
theorem dX10_looks_21 : decode cX10_looks 21 = .ok (.iconst 0, 1) := by decide +kernel
theorem dX10_looks_22 : decode cX10_looks 22 = .ok (.goto 4, 3) := by decide +kernel
theorem dX10_looks_25 : decode cX10_looks 25 = .ok (.iconst 2, 1) := by decide +kernel
theorem dX10_looks_26 : decode cX10_looks 26 = .ok (.putfield 53, 3) := by decide +kernel
theorem dX10_looks_29 : decode cX10_looks 29 = .ok (.aload_n 0, 1) := by decide +kernel
theorem dX10_looks_30 : decode cX10_looks 30 = .ok (.getfield 53, 3) := by decide +kernel
theorem dX10_looks_33 : decode cX10_looks 33 = .ok (.ireturn, 1) := by decide +kernel
theorem dX10_rawSample_0 : decode cX10_rawSample 0 = .ok (.aload_n 0, 1) := by decide +kernel
theorem dX10_rawSample_1 : decode cX10_rawSample 1 = .ok (.iload_n 1, 1) := by decide +kernel
theorem dX10_rawSample_2 : decode cX10_rawSample 2 = .ok (.iload_n 2, 1) := by decide +kernel
theorem dX10_rawSample_3 : decode cX10_rawSample 3 = .ok (.invokevirtual 121, 3) := by decide +kernel
theorem dX10_rawSample_6 : decode cX10_rawSample 6 = .ok (.ifCond .ne 21, 3) := by decide +kernel
theorem dX10_rawSample_9 : decode cX10_rawSample 9 = .ok (.aload_n 0, 1) := by decide +kernel
theorem dX10_rawSample_10 : decode cX10_rawSample 10 = .ok (.getfield 16, 3) := by decide +kernel
theorem dX10_rawSample_13 : decode cX10_rawSample 13 = .ok (.bipush 77, 2) := by decide +kernel
theorem dX10_rawSample_15 : decode cX10_rawSample 15 = .ok (.sipush 160, 3) := by decide +kernel
theorem dX10_rawSample_18 : decode cX10_rawSample 18 = .ok (.iload_n 1, 1) := by decide +kernel
theorem dX10_rawSample_19 : decode cX10_rawSample 19 = .ok (.imul, 1) := by decide +kernel
theorem dX10_rawSample_20 : decode cX10_rawSample 20 = .ok (.iadd, 1) := by decide +kernel
theorem dX10_rawSample_21 : decode cX10_rawSample 21 = .ok (.iload_n 2, 1) := by decide +kernel
theorem dX10_rawSample_22 : decode cX10_rawSample 22 = .ok (.iadd, 1) := by decide +kernel
theorem dX10_rawSample_23 : decode cX10_rawSample 23 = .ok (.iaload, 1) := by decide +kernel
theorem dX10_rawSample_24 : decode cX10_rawSample 24 = .ok (.goto 4, 3) := by decide +kernel
theorem dX10_rawSample_27 : decode cX10_rawSample 27 = .ok (.iconst 0, 1) := by decide +kernel
theorem dX10_rawSample_28 : decode cX10_rawSample 28 = .ok (.ireturn, 1) := by decide +kernel
theorem dX10_mean_0 : decode cX10_mean 0 = .ok (.iconst 0, 1) := by decide +kernel
theorem dX10_mean_1 : decode cX10_mean 1 = .ok (.istore_n 3, 1) := by decide +kernel
theorem dX10_mean_2 : decode cX10_mean 2 = .ok (.iload_n 1, 1) := by decide +kernel
theorem dX10_mean_3 : decode cX10_mean 3 = .ok (.istore 4, 2) := by decide +kernel
theorem dX10_mean_5 : decode cX10_mean 5 = .ok (.iload 4, 2) := by decide +kernel
theorem dX10_mean_7 : decode cX10_mean 7 = .ok (.ifCond .lt 27, 3) := by decide +kernel
theorem dX10_mean_10 : decode cX10_mean 10 = .ok (.iload 4, 2) := by decide +kernel
theorem dX10_mean_12 : decode cX10_mean 12 = .ok (.iload_n 1, 1) := by decide +kernel
theorem dX10_mean_13 : decode cX10_mean 13 = .ok (.iload_n 2, 1) := by decide +kernel
theorem dX10_mean_14 : decode cX10_mean 14 = .ok (.isub, 1) := by decide +kernel
theorem dX10_mean_15 : decode cX10_mean 15 = .ok (.if_icmp .le 19, 3) := by decide +kernel
theorem dX10_mean_18 : decode cX10_mean 18 = .ok (.iload_n 3, 1) := by decide +kernel
theorem dX10_mean_19 : decode cX10_mean 19 = .ok (.aload_n 0, 1) := by decide +kernel
theorem dX10_mean_20 : decode cX10_mean 20 = .ok (.getfield 35, 3) := by decide +kernel
theorem dX10_mean_23 : decode cX10_mean 23 = .ok (.iload 4, 2) := by decide +kernel
theorem dX10_mean_25 : decode cX10_mean 25 = .ok (.iaload, 1) := by decide +kernel
theorem dX10_mean_26 : decode cX10_mean 26 = .ok (.iadd, 1) := by decide +kernel
theorem dX10_mean_27 : decode cX10_mean 27 = .ok (.istore_n 3, 1) := by decide +kernel
theorem dX10_mean_28 : decode cX10_mean 28 = .ok (.iinc 4 (-1), 3) := by decide +kernel
theorem dX10_mean_31 : decode cX10_mean 31 = .ok (.goto (-26), 3) := by decide +kernel
theorem dX10_mean_34 : decode cX10_mean 34 = .ok (.iload_n 3, 1) := by decide +kernel
theorem dX10_mean_35 : decode cX10_mean 35 = .ok (.iload_n 2, 1) := by decide +kernel
theorem dX10_mean_36 : decode cX10_mean 36 = .ok (.idiv, 1) := by decide +kernel
theorem dX10_mean_37 : decode cX10_mean 37 = .ok (.ireturn, 1) := by decide +kernel
theorem dX10_passes_0 : decode cX10_passes 0 = .ok (.aload_n 0, 1) := by decide +kernel
theorem dX10_passes_1 : decode cX10_passes 1 = .ok (.getfield 35, 3) := by decide +kernel
theorem dX10_passes_4 : decode cX10_passes 4 = .ok (.iload_n 3, 1) := by decide +kernel
theorem dX10_passes_5 : decode cX10_passes 5 = .ok (.iaload, 1) := by decide +kernel
theorem dX10_passes_6 : decode cX10_passes 6 = .ok (.istore 4, 2) := by decide +kernel
theorem dX10_passes_8 : decode cX10_passes 8 = .ok (.iload_n 1, 1) := by decide +kernel
theorem dX10_passes_9 : decode cX10_passes 9 = .ok (.tableswitch 121 99 109 #[92, 67, 121, 117, 59, 121, 121, 121, 121, 121, 85], 59) := by decide +kernel
theorem dX10_passes_68 : decode cX10_passes 68 = .ok (.iload 4, 2) := by decide +kernel
theorem dX10_passes_70 : decode cX10_passes 70 = .ok (.iload_n 2, 1) := by decide +kernel
theorem dX10_passes_71 : decode cX10_passes 71 = .ok (.imul, 1) := by decide +kernel
theorem dX10_passes_72 : decode cX10_passes 72 = .ok (.bipush 100, 2) := by decide +kernel
theorem dX10_passes_74 : decode cX10_passes 74 = .ok (.idiv, 1) := by decide +kernel
theorem dX10_passes_75 : decode cX10_passes 75 = .ok (.ireturn, 1) := by decide +kernel
theorem dX10_passes_76 : decode cX10_passes 76 = .ok (.iload_n 3, 1) := by decide +kernel
theorem dX10_passes_77 : decode cX10_passes 77 = .ok (.iload_n 2, 1) := by decide +kernel
theorem dX10_passes_78 : decode cX10_passes 78 = .ok (.if_icmp .ge 7, 3) := by decide +kernel
theorem dX10_passes_81 : decode cX10_passes 81 = .ok (.iconst 0, 1) := by decide +kernel
theorem dX10_passes_82 : decode cX10_passes 82 = .ok (.goto 11, 3) := by decide +kernel
theorem dX10_passes_85 : decode cX10_passes 85 = .ok (.aload_n 0, 1) := by decide +kernel
theorem dX10_passes_86 : decode cX10_passes 86 = .ok (.getfield 35, 3) := by decide +kernel
theorem dX10_passes_89 : decode cX10_passes 89 = .ok (.iload_n 3, 1) := by decide +kernel
theorem dX10_passes_90 : decode cX10_passes 90 = .ok (.iload_n 2, 1) := by decide +kernel
theorem dX10_passes_91 : decode cX10_passes 91 = .ok (.isub, 1) := by decide +kernel
theorem dX10_passes_92 : decode cX10_passes 92 = .ok (.iaload, 1) := by decide +kernel
theorem dX10_passes_93 : decode cX10_passes 93 = .ok (.ireturn, 1) := by decide +kernel
theorem dX10_passes_94 : decode cX10_passes 94 = .ok (.aload_n 0, 1) := by decide +kernel
theorem dX10_passes_95 : decode cX10_passes 95 = .ok (.iload_n 3, 1) := by decide +kernel
theorem dX10_passes_96 : decode cX10_passes 96 = .ok (.iload_n 2, 1) := by decide +kernel
theorem dX10_passes_97 : decode cX10_passes 97 = .ok (.invokevirtual 124, 3) := by decide +kernel
theorem dX10_passes_100 : decode cX10_passes 100 = .ok (.ireturn, 1) := by decide +kernel
theorem dX10_passes_101 : decode cX10_passes 101 = .ok (.iload 4, 2) := by decide +kernel
theorem dX10_passes_103 : decode cX10_passes 103 = .ok (.iload_n 2, 1) := by decide +kernel
theorem dX10_passes_104 : decode cX10_passes 104 = .ok (.if_icmp .le 7, 3) := by decide +kernel
theorem dX10_passes_107 : decode cX10_passes 107 = .ok (.iload_n 2, 1) := by decide +kernel
theorem dX10_passes_108 : decode cX10_passes 108 = .ok (.goto 17, 3) := by decide +kernel
theorem dX10_passes_111 : decode cX10_passes 111 = .ok (.iload 4, 2) := by decide +kernel
theorem dX10_passes_113 : decode cX10_passes 113 = .ok (.iload_n 2, 1) := by decide +kernel
theorem dX10_passes_114 : decode cX10_passes 114 = .ok (.ineg, 1) := by decide +kernel
