theorem dX12_init_0 : decode cX12_init 0 = .ok (.aload_n 0, 1) := by decide +kernel
theorem dX12_init_1 : decode cX12_init 1 = .ok (.invokespecial 3, 3) := by decide +kernel
theorem dX12_init_4 : decode cX12_init 4 = .ok (.aload_n 0, 1) := by decide +kernel
theorem dX12_init_5 : decode cX12_init 5 = .ok (.sipush 970, 3) := by decide +kernel
theorem dX12_init_8 : decode cX12_init 8 = .ok (.newarray .int, 2) := by decide +kernel
theorem dX12_init_10 : decode cX12_init 10 = .ok (.putfield 9, 3) := by decide +kernel
theorem dX12_init_13 : decode cX12_init 13 = .ok (.aload_n 0, 1) := by decide +kernel
theorem dX12_init_14 : decode cX12_init 14 = .ok (.sipush 970, 3) := by decide +kernel
theorem dX12_init_17 : decode cX12_init 17 = .ok (.newarray .int, 2) := by decide +kernel
theorem dX12_init_19 : decode cX12_init 19 = .ok (.putfield 13, 3) := by decide +kernel
theorem dX12_init_22 : decode cX12_init 22 = .ok (.aload_n 0, 1) := by decide +kernel
theorem dX12_init_23 : decode cX12_init 23 = .ok (.sipush 970, 3) := by decide +kernel
theorem dX12_init_26 : decode cX12_init 26 = .ok (.newarray .int, 2) := by decide +kernel
theorem dX12_init_28 : decode cX12_init 28 = .ok (.putfield 16, 3) := by decide +kernel
theorem dX12_init_31 : decode cX12_init 31 = .ok (.aload_n 0, 1) := by decide +kernel
theorem dX12_init_32 : decode cX12_init 32 = .ok (.bipush 7, 2) := by decide +kernel
theorem dX12_init_34 : decode cX12_init 34 = .ok (.newarray .int, 2) := by decide +kernel
theorem dX12_init_36 : decode cX12_init 36 = .ok (.putfield 19, 3) := by decide +kernel
theorem dX12_init_39 : decode cX12_init 39 = .ok (.aload_n 0, 1) := by decide +kernel
theorem dX12_init_40 : decode cX12_init 40 = .ok (.bipush 100, 2) := by decide +kernel
theorem dX12_init_42 : decode cX12_init 42 = .ok (.newarray .int, 2) := by decide +kernel
theorem dX12_init_44 : decode cX12_init 44 = .ok (.putfield 22, 3) := by decide +kernel
theorem dX12_init_47 : decode cX12_init 47 = .ok (.aload_n 0, 1) := by decide +kernel
theorem dX12_init_48 : decode cX12_init 48 = .ok (.iconst 4, 1) := by decide +kernel
theorem dX12_init_49 : decode cX12_init 49 = .ok (.anewarray 25, 3) := by decide +kernel
theorem dX12_init_52 : decode cX12_init 52 = .ok (.dup, 1) := by decide +kernel
theorem dX12_init_53 : decode cX12_init 53 = .ok (.iconst 0, 1) := by decide +kernel
theorem dX12_init_54 : decode cX12_init 54 = .ok (.ldc 27, 2) := by decide +kernel
theorem dX12_init_56 : decode cX12_init 56 = .ok (.aastore, 1) := by decide +kernel
theorem dX12_init_57 : decode cX12_init 57 = .ok (.dup, 1) := by decide +kernel
theorem dX12_init_58 : decode cX12_init 58 = .ok (.iconst 1, 1) := by decide +kernel
theorem dX12_init_59 : decode cX12_init 59 = .ok (.ldc 29, 2) := by decide +kernel
theorem dX12_init_61 : decode cX12_init 61 = .ok (.aastore, 1) := by decide +kernel
theorem dX12_init_62 : decode cX12_init 62 = .ok (.dup, 1) := by decide +kernel
theorem dX12_init_63 : decode cX12_init 63 = .ok (.iconst 2, 1) := by decide +kernel
theorem dX12_init_64 : decode cX12_init 64 = .ok (.ldc 31, 2) := by decide +kernel
theorem dX12_init_66 : decode cX12_init 66 = .ok (.aastore, 1) := by decide +kernel
theorem dX12_init_67 : decode cX12_init 67 = .ok (.dup, 1) := by decide +kernel
theorem dX12_init_68 : decode cX12_init 68 = .ok (.iconst 3, 1) := by decide +kernel
theorem dX12_init_69 : decode cX12_init 69 = .ok (.ldc 33, 2) := by decide +kernel
theorem dX12_init_71 : decode cX12_init 71 = .ok (.aastore, 1) := by decide +kernel
theorem dX12_init_72 : decode cX12_init 72 = .ok (.putfield 35, 3) := by decide +kernel
theorem dX12_init_75 : decode cX12_init 75 = .ok (.aload_n 0, 1) := by decide +kernel
theorem dX12_init_76 : decode cX12_init 76 = .ok (.sipush 200, 3) := by decide +kernel
theorem dX12_init_79 : decode cX12_init 79 = .ok (.newarray .int, 2) := by decide +kernel
theorem dX12_init_81 : decode cX12_init 81 = .ok (.putfield 39, 3) := by decide +kernel
theorem dX12_init_84 : decode cX12_init 84 = .ok (.aload_n 0, 1) := by decide +kernel
theorem dX12_init_85 : decode cX12_init 85 = .ok (.sipush 200, 3) := by decide +kernel
theorem dX12_init_88 : decode cX12_init 88 = .ok (.newarray .int, 2) := by decide +kernel
theorem dX12_init_90 : decode cX12_init 90 = .ok (.putfield 42, 3) := by decide +kernel
theorem dX12_init_93 : decode cX12_init 93 = .ok (.aload_n 0, 1) := by decide +kernel
theorem dX12_init_94 : decode cX12_init 94 = .ok (.iconst 4, 1) := by decide +kernel
theorem dX12_init_95 : decode cX12_init 95 = .ok (.newarray .int, 2) := by decide +kernel
theorem dX12_init_97 : decode cX12_init 97 = .ok (.putfield 45, 3) := by decide +kernel
theorem dX12_init_100 : decode cX12_init 100 = .ok (.aload_n 0, 1) := by decide +kernel
theorem dX12_init_101 : decode cX12_init 101 = .ok (.iconst 4, 1) := by decide +kernel
theorem dX12_init_102 : decode cX12_init 102 = .ok (.newarray .int, 2) := by decide +kernel
theorem dX12_init_104 : decode cX12_init 104 = .ok (.putfield 48, 3) := by decide +kernel
theorem dX12_init_107 : decode cX12_init 107 = .ok (.aload_n 0, 1) := by decide +kernel
theorem dX12_init_108 : decode cX12_init 108 = .ok (.bipush 96, 2) := by decide +kernel
theorem dX12_init_110 : decode cX12_init 110 = .ok (.newarray .int, 2) := by decide +kernel
theorem dX12_init_112 : decode cX12_init 112 = .ok (.putfield 51, 3) := by decide +kernel
theorem dX12_init_115 : decode cX12_init 115 = .ok (.aload_n 0, 1) := by decide +kernel
theorem dX12_init_116 : decode cX12_init 116 = .ok (.bipush 24, 2) := by decide +kernel
theorem dX12_init_118 : decode cX12_init 118 = .ok (.newarray .int, 2) := by decide +kernel
theorem dX12_init_120 : decode cX12_init 120 = .ok (.putfield 54, 3) := by decide +kernel
theorem dX12_init_123 : decode cX12_init 123 = .ok (.aload_n 0, 1) := by decide +kernel
theorem dX12_init_124 : decode cX12_init 124 = .ok (.getfield 9, 3) := by decide +kernel
theorem dX12_init_127 : decode cX12_init 127 = .ok (.iconst 2, 1) := by decide +kernel
theorem dX12_init_128 : decode cX12_init 128 = .ok (.bipush 15, 2) := by decide +kernel
theorem dX12_init_130 : decode cX12_init 130 = .ok (.iastore, 1) := by decide +kernel
theorem dX12_init_131 : decode cX12_init 131 = .ok (.aload_n 0, 1) := by decide +kernel
theorem dX12_init_132 : decode cX12_init 132 = .ok (.getfield 9, 3) := by decide +kernel
theorem dX12_init_135 : decode cX12_init 135 = .ok (.bipush 26, 2) := by decide +kernel
theorem dX12_init_137 : decode cX12_init 137 = .ok (.iconst 4, 1) := by decide +kernel
theorem dX12_init_138 : decode cX12_init 138 = .ok (.iastore, 1) := by decide +kernel
theorem dX12_init_139 : decode cX12_init 139 = .ok (.aload_n 0, 1) := by decide +kernel
theorem dX12_init_140 : decode cX12_init 140 = .ok (.getfield 9, 3) := by decide +kernel
theorem dX12_init_143 : decode cX12_init 143 = .ok (.bipush 28, 2) := by decide +kernel
theorem dX12_init_145 : decode cX12_init 145 = .ok (.bipush 10, 2) := by decide +kernel
theorem dX12_init_147 : decode cX12_init 147 = .ok (.iastore, 1) := by decide +kernel
theorem dX12_init_148 : decode cX12_init 148 = .ok (.aload_n 0, 1) := by decide +kernel
theorem dX12_init_149 : decode cX12_init 149 = .ok (.getfield 9, 3) := by decide +kernel
theorem dX12_init_152 : decode cX12_init 152 = .ok (.bipush 29, 2) := by decide +kernel
theorem dX12_init_154 : decode cX12_init 154 = .ok (.iconst 2, 1) := by decide +kernel
theorem dX12_init_155 : decode cX12_init 155 = .ok (.iastore, 1) := by decide +kernel
theorem dX12_init_156 : decode cX12_init 156 = .ok (.iconst 0, 1) := by decide +kernel
theorem dX12_init_157 : decode cX12_init 157 = .ok (.istore_n 1, 1) := by decide +kernel
theorem dX12_init_158 : decode cX12_init 158 = .ok (.iload_n 1, 1) := by decide +kernel
theorem dX12_init_159 : decode cX12_init 159 = .ok (.bipush 6, 2) := by decide +kernel
theorem dX12_init_161 : decode cX12_init 161 = .ok (.if_icmp .ge 21, 3) := by decide +kernel
theorem dX12_init_164 : decode cX12_init 164 = .ok (.aload_n 0, 1) := by decide +kernel
theorem dX12_init_165 : decode cX12_init 165 = .ok (.getfield 9, 3) := by decide +kernel
theorem dX12_init_168 : decode cX12_init 168 = .ok (.bipush 10, 2) := by decide +kernel
theorem dX12_init_170 : decode cX12_init 170 = .ok (.iload_n 1, 1) := by decide +kernel
theorem dX12_init_171 : decode cX12_init 171 = .ok (.iadd, 1) := by decide +kernel
theorem dX12_init_172 : decode cX12_init 172 = .ok (.iconst 1, 1) := by decide +kernel
theorem dX12_init_173 : decode cX12_init 173 = .ok (.iload_n 1, 1) := by decide +kernel
theorem dX12_init_174 : decode cX12_init 174 = .ok (.ishl, 1) := by decide +kernel
theorem dX12_init_175 : decode cX12_init 175 = .ok (.iastore, 1) := by decide +kernel
theorem dX12_init_176 : decode cX12_init 176 = .ok (.iinc 1 1, 3) := by decide +kernel
theorem dX12_init_179 : decode cX12_init 179 = .ok (.goto (-21), 3) := by decide +kernel
theorem dX12_init_182 : decode cX12_init 182 = .ok (.iconst 0, 1) := by decide +kernel
theorem dX12_init_183 : decode cX12_init 183 = .ok (.istore_n 1, 1) := by decide +kernel
theorem dX12_init_184 : decode cX12_init 184 = .ok (.iload_n 1, 1) := by decide +kernel
theorem dX12_init_185 : decode cX12_init 185 = .ok (.iconst 4, 1) := by decide +kernel
theorem dX12_init_186 : decode cX12_init 186 = .ok (.if_icmp .ge 19, 3) := by decide +kernel
theorem dX12_init_189 : decode cX12_init 189 = .ok (.aload_n 0, 1) := by decide +kernel
theorem dX12_init_190 : decode cX12_init 190 = .ok (.getfield 9, 3) := by decide +kernel
theorem dX12_init_193 : decode cX12_init 193 = .ok (.bipush 16, 2) := by decide +kernel
theorem dX12_init_195 : decode cX12_init 195 = .ok (.iload_n 1, 1) := by decide +kernel
theorem dX12_init_196 : decode cX12_init 196 = .ok (.iadd, 1) := by decide +kernel
theorem dX12_init_197 : decode cX12_init 197 = .ok (.iload_n 1, 1) := by decide +kernel
theorem dX12_init_198 : decode cX12_init 198 = .ok (.iastore, 1) := by decide +kernel
theorem dX12_init_199 : decode cX12_init 199 = .ok (.iinc 1 1, 3) := by decide +kernel
theorem dX12_init_202 : decode cX12_init 202 = .ok (.goto (-18), 3) := by decide +kernel
theorem dX12_init_205 : decode cX12_init 205 = .ok (.return_, 1) := by decide +kernel
theorem dX12_finding_0 : decode cX12_finding 0 = .ok (.aload_n 0, 1) := by decide +kernel
theorem dX12_finding_1 : decode cX12_finding 1 = .ok (.getfield 19, 3) := by decide +kernel
theorem dX12_finding_4 : decode cX12_finding 4 = .ok (.ldc 57, 2) := by decide +kernel
theorem dX12_finding_6 : decode cX12_finding 6 = .ok (.iload_n 1, 1) := by decide +kernel
theorem dX12_finding_7 : decode cX12_finding 7 = .ok (.isub, 1) := by decide +kernel
theorem dX12_finding_8 : decode cX12_finding 8 = .ok (.dup2, 1) := by decide +kernel
theorem dX12_finding_9 : decode cX12_finding 9 = .ok (.iaload, 1) := by decide +kernel
theorem dX12_finding_10 : decode cX12_finding 10 = .ok (.iconst 1, 1) := by decide +kernel
theorem dX12_finding_11 : decode cX12_finding 11 = .ok (.iadd, 1) := by decide +kernel
theorem dX12_finding_12 : decode cX12_finding 12 = .ok (.iastore, 1) := by decide +kernel
theorem dX12_finding_13 : decode cX12_finding 13 = .ok (.iload_n 1, 1) := by decide +kernel
theorem dX12_finding_14 : decode cX12_finding 14 = .ok (.ireturn, 1) := by decide +kernel
theorem dX12_within_0 : decode cX12_within 0 = .ok (.iload_n 0, 1) := by decide +kernel
theorem dX12_within_1 : decode cX12_within 1 = .ok (.iload_n 1, 1) := by decide +kernel
theorem dX12_within_2 : decode cX12_within 2 = .ok (.if_icmp .lt 12, 3) := by decide +kernel
theorem dX12_within_5 : decode cX12_within 5 = .ok (.iload_n 0, 1) := by decide +kernel
theorem dX12_within_6 : decode cX12_within 6 = .ok (.iload_n 2, 1) := by decide +kernel
theorem dX12_within_7 : decode cX12_within 7 = .ok (.if_icmp .gt 7, 3) := by decide +kernel
theorem dX12_within_10 : decode cX12_within 10 = .ok (.iconst 1, 1) := by decide +kernel
theorem dX12_within_11 : decode cX12_within 11 = .ok (.goto 4, 3) := by decide +kernel
theorem dX12_within_14 : decode cX12_within 14 = .ok (.iconst 0, 1) := by decide +kernel
theorem dX12_within_15 : decode cX12_within 15 = .ok (.ireturn, 1) := by decide +kernel
theorem dX12_is_0 : decode cX12_is 0 = .ok (.iload_n 1, 1) := by decide +kernel
theorem dX12_is_1 : decode cX12_is 1 = .ok (.iconst 0, 1) := by decide +kernel
theorem dX12_is_2 : decode cX12_is 2 = .ok (.aload_n 0, 1) := by decide +kernel
theorem dX12_is_3 : decode cX12_is 3 = .ok (.getfield 9, 3) := by decide +kernel
theorem dX12_is_6 : decode cX12_is 6 = .ok (.iload_n 2, 1) := by decide +kernel
theorem dX12_is_7 : decode cX12_is 7 = .ok (.iaload, 1) := by decide +kernel
theorem dX12_is_8 : decode cX12_is 8 = .ok (.iconst 1, 1) := by decide +kernel
theorem dX12_is_9 : decode cX12_is 9 = .ok (.isub, 1) := by decide +kernel
theorem dX12_is_10 : decode cX12_is 10 = .ok (.invokestatic 58, 3) := by decide +kernel
theorem dX12_is_13 : decode cX12_is 13 = .ok (.ireturn, 1) := by decide +kernel
theorem dX12_has_0 : decode cX12_has 0 = .ok (.iload_n 0, 1) := by decide +kernel
theorem dX12_has_1 : decode cX12_has 1 = .ok (.iload_n 1, 1) := by decide +kernel
theorem dX12_has_2 : decode cX12_has 2 = .ok (.ishr, 1) := by decide +kernel
theorem dX12_has_3 : decode cX12_has 3 = .ok (.iconst 1, 1) := by decide +kernel
theorem dX12_has_4 : decode cX12_has 4 = .ok (.iand, 1) := by decide +kernel
theorem dX12_has_5 : decode cX12_has 5 = .ok (.iconst 1, 1) := by decide +kernel
theorem dX12_has_6 : decode cX12_has 6 = .ok (.if_icmp .ne 7, 3) := by decide +kernel
theorem dX12_has_9 : decode cX12_has 9 = .ok (.iconst 1, 1) := by decide +kernel
theorem dX12_has_10 : decode cX12_has 10 = .ok (.goto 4, 3) := by decide +kernel
theorem dX12_has_13 : decode cX12_has 13 = .ok (.iconst 0, 1) := by decide +kernel
theorem dX12_has_14 : decode cX12_has 14 = .ok (.ireturn, 1) := by decide +kernel
theorem dX12_become_0 : decode cX12_become 0 = .ok (.aload_n 0, 1) := by decide +kernel
theorem dX12_become_1 : decode cX12_become 1 = .ok (.getfield 9, 3) := by decide +kernel
theorem dX12_become_4 : decode cX12_become 4 = .ok (.iload_n 1, 1) := by decide +kernel
theorem dX12_become_5 : decode cX12_become 5 = .ok (.iaload, 1) := by decide +kernel
theorem dX12_become_6 : decode cX12_become 6 = .ok (.istore_n 3, 1) := by decide +kernel
theorem dX12_become_7 : decode cX12_become 7 = .ok (.aload_n 0, 1) := by decide +kernel
theorem dX12_become_8 : decode cX12_become 8 = .ok (.getfield 9, 3) := by decide +kernel
theorem dX12_become_11 : decode cX12_become 11 = .ok (.iload_n 1, 1) := by decide +kernel
theorem dX12_become_12 : decode cX12_become 12 = .ok (.iload_n 2, 1) := by decide +kernel
theorem dX12_become_13 : decode cX12_become 13 = .ok (.iastore, 1) := by decide +kernel
theorem dX12_become_14 : decode cX12_become 14 = .ok (.iload_n 3, 1) := by decide +kernel
theorem dX12_become_15 : decode cX12_become 15 = .ok (.ireturn, 1) := by decide +kernel
theorem dX12_gliderOf_0 : decode cX12_gliderOf 0 = .ok (.aload_n 0, 1) := by decide +kernel
theorem dX12_gliderOf_1 : decode cX12_gliderOf 1 = .ok (.getfield 9, 3) := by decide +kernel
theorem dX12_gliderOf_4 : decode cX12_gliderOf 4 = .ok (.bipush 50, 2) := by decide +kernel
theorem dX12_gliderOf_6 : decode cX12_gliderOf 6 = .ok (.iconst 4, 1) := by decide +kernel
theorem dX12_gliderOf_7 : decode cX12_gliderOf 7 = .ok (.iload_n 1, 1) := by decide +kernel
theorem dX12_gliderOf_8 : decode cX12_gliderOf 8 = .ok (.imul, 1) := by decide +kernel
theorem dX12_gliderOf_9 : decode cX12_gliderOf 9 = .ok (.iadd, 1) := by decide +kernel
theorem dX12_gliderOf_10 : decode cX12_gliderOf 10 = .ok (.iload_n 2, 1) := by decide +kernel
theorem dX12_gliderOf_11 : decode cX12_gliderOf 11 = .ok (.iadd, 1) := by decide +kernel
theorem dX12_gliderOf_12 : decode cX12_gliderOf 12 = .ok (.iaload, 1) := by decide +kernel
theorem dX12_gliderOf_13 : decode cX12_gliderOf 13 = .ok (.ireturn, 1) := by decide +kernel
theorem dX12_personOf_0 : decode cX12_personOf 0 = .ok (.aload_n 0, 1) := by decide +kernel
theorem dX12_personOf_1 : decode cX12_personOf 1 = .ok (.getfield 9, 3) := by decide +kernel
theorem dX12_personOf_4 : decode cX12_personOf 4 = .ok (.bipush 90, 2) := by decide +kernel
theorem dX12_personOf_6 : decode cX12_personOf 6 = .ok (.iconst 4, 1) := by decide +kernel
theorem dX12_personOf_7 : decode cX12_personOf 7 = .ok (.iload_n 1, 1) := by decide +kernel
theorem dX12_personOf_8 : decode cX12_personOf 8 = .ok (.imul, 1) := by decide +kernel
theorem dX12_personOf_9 : decode cX12_personOf 9 = .ok (.iadd, 1) := by decide +kernel
theorem dX12_personOf_10 : decode cX12_personOf 10 = .ok (.iload_n 2, 1) := by decide +kernel
theorem dX12_personOf_11 : decode cX12_personOf 11 = .ok (.iadd, 1) := by decide +kernel
theorem dX12_personOf_12 : decode cX12_personOf 12 = .ok (.iaload, 1) := by decide +kernel
theorem dX12_personOf_13 : decode cX12_personOf 13 = .ok (.ireturn, 1) := by decide +kernel
theorem dX12_askOf_0 : decode cX12_askOf 0 = .ok (.aload_n 0, 1) := by decide +kernel
theorem dX12_askOf_1 : decode cX12_askOf 1 = .ok (.getfield 9, 3) := by decide +kernel
theorem dX12_askOf_4 : decode cX12_askOf 4 = .ok (.sipush 146, 3) := by decide +kernel
theorem dX12_askOf_7 : decode cX12_askOf 7 = .ok (.bipush 10, 2) := by decide +kernel
theorem dX12_askOf_9 : decode cX12_askOf 9 = .ok (.iload_n 1, 1) := by decide +kernel
theorem dX12_askOf_10 : decode cX12_askOf 10 = .ok (.imul, 1) := by decide +kernel
theorem dX12_askOf_11 : decode cX12_askOf 11 = .ok (.iadd, 1) := by decide +kernel
theorem dX12_askOf_12 : decode cX12_askOf 12 = .ok (.iload_n 2, 1) := by decide +kernel
theorem dX12_askOf_13 : decode cX12_askOf 13 = .ok (.iadd, 1) := by decide +kernel
theorem dX12_askOf_14 : decode cX12_askOf 14 = .ok (.iaload, 1) := by decide +kernel
theorem dX12_askOf_15 : decode cX12_askOf 15 = .ok (.ireturn, 1) := by decide +kernel
theorem dX12_glider_0 : decode cX12_glider 0 = .ok (.iload_n 1, 1) := by decide +kernel
theorem dX12_glider_1 : decode cX12_glider 1 = .ok (.iconst 1, 1) := by decide +kernel
theorem dX12_glider_2 : decode cX12_glider 2 = .ok (.iconst 2, 1) := by decide +kernel
theorem dX12_glider_3 : decode cX12_glider 3 = .ok (.invokestatic 58, 3) := by decide +kernel
theorem dX12_glider_6 : decode cX12_glider 6 = .ok (.ifCond .eq 43, 3) := by decide +kernel
theorem dX12_glider_9 : decode cX12_glider 9 = .ok (.iload_n 2, 1) := by decide +kernel
theorem dX12_glider_10 : decode cX12_glider 10 = .ok (.bipush 60, 2) := by decide +kernel
theorem dX12_glider_12 : decode cX12_glider 12 = .ok (.sipush 250, 3) := by decide +kernel
theorem dX12_glider_15 : decode cX12_glider 15 = .ok (.invokestatic 58, 3) := by decide +kernel
theorem dX12_glider_18 : decode cX12_glider 18 = .ok (.ifCond .eq 31, 3) := by decide +kernel
theorem dX12_glider_21 : decode cX12_glider 21 = .ok (.iload_n 3, 1) := by decide +kernel
theorem dX12_glider_22 : decode cX12_glider 22 = .ok (.iconst 0, 1) := by decide +kernel
theorem dX12_glider_23 : decode cX12_glider 23 = .ok (.iconst 3, 1) := by decide +kernel
theorem dX12_glider_24 : decode cX12_glider 24 = .ok (.invokestatic 58, 3) := by decide +kernel
theorem dX12_glider_27 : decode cX12_glider 27 = .ok (.ifCond .eq 22, 3) := by decide +kernel
theorem dX12_glider_30 : decode cX12_glider 30 = .ok (.iload 4, 2) := by decide +kernel
theorem dX12_glider_32 : decode cX12_glider 32 = .ok (.iconst 0, 1) := by decide +kernel
theorem dX12_glider_33 : decode cX12_glider 33 = .ok (.iconst 1, 1) := by decide +kernel
theorem dX12_glider_34 : decode cX12_glider 34 = .ok (.aload_n 0, 1) := by decide +kernel
theorem dX12_glider_35 : decode cX12_glider 35 = .ok (.getfield 9, 3) := by decide +kernel
theorem dX12_glider_38 : decode cX12_glider 38 = .ok (.iconst 4, 1) := by decide +kernel
theorem dX12_glider_39 : decode cX12_glider 39 = .ok (.iaload, 1) := by decide +kernel
theorem dX12_glider_40 : decode cX12_glider 40 = .ok (.ishl, 1) := by decide +kernel
theorem dX12_glider_41 : decode cX12_glider 41 = .ok (.iconst 1, 1) := by decide +kernel
theorem dX12_glider_42 : decode cX12_glider 42 = .ok (.isub, 1) := by decide +kernel
theorem dX12_glider_43 : decode cX12_glider 43 = .ok (.invokestatic 58, 3) := by decide +kernel
theorem dX12_glider_46 : decode cX12_glider 46 = .ok (.ifCond .ne 10, 3) := by decide +kernel
theorem dX12_glider_49 : decode cX12_glider 49 = .ok (.aload_n 0, 1) := by decide +kernel
theorem dX12_glider_50 : decode cX12_glider 50 = .ok (.ldc 57, 2) := by decide +kernel
theorem dX12_glider_52 : decode cX12_glider 52 = .ok (.invokevirtual 62, 3) := by decide +kernel
theorem dX12_glider_55 : decode cX12_glider 55 = .ok (.ireturn, 1) := by decide +kernel
theorem dX12_glider_56 : decode cX12_glider 56 = .ok (.aload_n 0, 1) := by decide +kernel
theorem dX12_glider_57 : decode cX12_glider 57 = .ok (.getfield 9, 3) := by decide +kernel
theorem dX12_glider_60 : decode cX12_glider 60 = .ok (.iconst 3, 1) := by decide +kernel
theorem dX12_glider_61 : decode cX12_glider 61 = .ok (.iaload, 1) := by decide +kernel
theorem dX12_glider_62 : decode cX12_glider 62 = .ok (.istore 5, 2) := by decide +kernel
theorem dX12_glider_64 : decode cX12_glider 64 = .ok (.iload 5, 2) := by decide +kernel
theorem dX12_glider_66 : decode cX12_glider 66 = .ok (.bipush 10, 2) := by decide +kernel
theorem dX12_glider_68 : decode cX12_glider 68 = .ok (.if_icmp .ne 10, 3) := by decide +kernel
theorem dX12_glider_71 : decode cX12_glider 71 = .ok (.aload_n 0, 1) := by decide +kernel
theorem dX12_glider_72 : decode cX12_glider 72 = .ok (.ldc 66, 2) := by decide +kernel
theorem dX12_glider_74 : decode cX12_glider 74 = .ok (.invokevirtual 62, 3) := by decide +kernel
theorem dX12_glider_77 : decode cX12_glider 77 = .ok (.ireturn, 1) := by decide +kernel
theorem dX12_glider_78 : decode cX12_glider 78 = .ok (.bipush 50, 2) := by decide +kernel
theorem dX12_glider_80 : decode cX12_glider 80 = .ok (.iconst 4, 1) := by decide +kernel
theorem dX12_glider_81 : decode cX12_glider 81 = .ok (.iload 5, 2) := by decide +kernel
theorem dX12_glider_83 : decode cX12_glider 83 = .ok (.imul, 1) := by decide +kernel
theorem dX12_glider_84 : decode cX12_glider 84 = .ok (.iadd, 1) := by decide +kernel
theorem dX12_glider_85 : decode cX12_glider 85 = .ok (.istore 6, 2) := by decide +kernel
theorem dX12_glider_87 : decode cX12_glider 87 = .ok (.aload_n 0, 1) := by decide +kernel
theorem dX12_glider_88 : decode cX12_glider 88 = .ok (.getfield 9, 3) := by decide +kernel
theorem dX12_glider_91 : decode cX12_glider 91 = .ok (.iload 6, 2) := by decide +kernel
theorem dX12_glider_93 : decode cX12_glider 93 = .ok (.iload_n 1, 1) := by decide +kernel
theorem dX12_glider_94 : decode cX12_glider 94 = .ok (.iastore, 1) := by decide +kernel
theorem dX12_glider_95 : decode cX12_glider 95 = .ok (.aload_n 0, 1) := by decide +kernel
theorem dX12_glider_96 : decode cX12_glider 96 = .ok (.getfield 9, 3) := by decide +kernel
theorem dX12_glider_99 : decode cX12_glider 99 = .ok (.iload 6, 2) := by decide +kernel
theorem dX12_glider_101 : decode cX12_glider 101 = .ok (.iconst 1, 1) := by decide +kernel
theorem dX12_glider_102 : decode cX12_glider 102 = .ok (.iadd, 1) := by decide +kernel
theorem dX12_glider_103 : decode cX12_glider 103 = .ok (.iload_n 2, 1) := by decide +kernel
theorem dX12_glider_104 : decode cX12_glider 104 = .ok (.iastore, 1) := by decide +kernel
theorem dX12_glider_105 : decode cX12_glider 105 = .ok (.aload_n 0, 1) := by decide +kernel
theorem dX12_glider_106 : decode cX12_glider 106 = .ok (.getfield 9, 3) := by decide +kernel
theorem dX12_glider_109 : decode cX12_glider 109 = .ok (.iload 6, 2) := by decide +kernel
theorem dX12_glider_111 : decode cX12_glider 111 = .ok (.iconst 2, 1) := by decide +kernel
theorem dX12_glider_112 : decode cX12_glider 112 = .ok (.iadd, 1) := by decide +kernel
theorem dX12_glider_113 : decode cX12_glider 113 = .ok (.iload_n 3, 1) := by decide +kernel
theorem dX12_glider_114 : decode cX12_glider 114 = .ok (.iastore, 1) := by decide +kernel
theorem dX12_glider_115 : decode cX12_glider 115 = .ok (.aload_n 0, 1) := by decide +kernel
theorem dX12_glider_116 : decode cX12_glider 116 = .ok (.getfield 9, 3) := by decide +kernel
theorem dX12_glider_119 : decode cX12_glider 119 = .ok (.iload 6, 2) := by decide +kernel
theorem dX12_glider_121 : decode cX12_glider 121 = .ok (.iconst 3, 1) := by decide +kernel
theorem dX12_glider_122 : decode cX12_glider 122 = .ok (.iadd, 1) := by decide +kernel
theorem dX12_glider_123 : decode cX12_glider 123 = .ok (.iload 4, 2) := by decide +kernel
theorem dX12_glider_125 : decode cX12_glider 125 = .ok (.iastore, 1) := by decide +kernel
theorem dX12_glider_126 : decode cX12_glider 126 = .ok (.aload_n 0, 1) := by decide +kernel
theorem dX12_glider_127 : decode cX12_glider 127 = .ok (.getfield 9, 3) := by decide +kernel
theorem dX12_glider_130 : decode cX12_glider 130 = .ok (.iconst 3, 1) := by decide +kernel
theorem dX12_glider_131 : decode cX12_glider 131 = .ok (.dup2, 1) := by decide +kernel
theorem dX12_glider_132 : decode cX12_glider 132 = .ok (.iaload, 1) := by decide +kernel
theorem dX12_glider_133 : decode cX12_glider 133 = .ok (.iconst 1, 1) := by decide +kernel
theorem dX12_glider_134 : decode cX12_glider 134 = .ok (.iadd, 1) := by decide +kernel
theorem dX12_glider_135 : decode cX12_glider 135 = .ok (.iastore, 1) := by decide +kernel
theorem dX12_glider_136 : decode cX12_glider 136 = .ok (.iload 5, 2) := by decide +kernel
theorem dX12_glider_138 : decode cX12_glider 138 = .ok (.ireturn, 1) := by decide +kernel
theorem dX12_person_0 : decode cX12_person 0 = .ok (.iload_n 1, 1) := by decide +kernel
theorem dX12_person_1 : decode cX12_person 1 = .ok (.bipush 40, 2) := by decide +kernel
theorem dX12_person_3 : decode cX12_person 3 = .ok (.sipush 130, 3) := by decide +kernel
theorem dX12_person_6 : decode cX12_person 6 = .ok (.invokestatic 58, 3) := by decide +kernel
theorem dX12_person_9 : decode cX12_person 9 = .ok (.ifCond .eq 10, 3) := by decide +kernel
theorem dX12_person_12 : decode cX12_person 12 = .ok (.iload_n 2, 1) := by decide +kernel
theorem dX12_person_13 : decode cX12_person 13 = .ok (.bipush (-127), 2) := by decide +kernel
theorem dX12_person_15 : decode cX12_person 15 = .ok (.iand, 1) := by decide +kernel
theorem dX12_person_16 : decode cX12_person 16 = .ok (.ifCond .eq 10, 3) := by decide +kernel
theorem dX12_person_19 : decode cX12_person 19 = .ok (.aload_n 0, 1) := by decide +kernel
theorem dX12_person_20 : decode cX12_person 20 = .ok (.ldc 57, 2) := by decide +kernel
theorem dX12_person_22 : decode cX12_person 22 = .ok (.invokevirtual 62, 3) := by decide +kernel
theorem dX12_person_25 : decode cX12_person 25 = .ok (.ireturn, 1) := by decide +kernel
theorem dX12_person_26 : decode cX12_person 26 = .ok (.aload_n 0, 1) := by decide +kernel
theorem dX12_person_27 : decode cX12_person 27 = .ok (.getfield 9, 3) := by decide +kernel
theorem dX12_person_30 : decode cX12_person 30 = .ok (.iconst 4, 1) := by decide +kernel
theorem dX12_person_31 : decode cX12_person 31 = .ok (.iaload, 1) := by decide +kernel
theorem dX12_person_32 : decode cX12_person 32 = .ok (.istore_n 3, 1) := by decide +kernel
theorem dX12_person_33 : decode cX12_person 33 = .ok (.iload_n 3, 1) := by decide +kernel
theorem dX12_person_34 : decode cX12_person 34 = .ok (.bipush 14, 2) := by decide +kernel
theorem dX12_person_36 : decode cX12_person 36 = .ok (.if_icmp .ne 10, 3) := by decide +kernel
theorem dX12_person_39 : decode cX12_person 39 = .ok (.aload_n 0, 1) := by decide +kernel
theorem dX12_person_40 : decode cX12_person 40 = .ok (.ldc 66, 2) := by decide +kernel
theorem dX12_person_42 : decode cX12_person 42 = .ok (.invokevirtual 62, 3) := by decide +kernel
theorem dX12_person_45 : decode cX12_person 45 = .ok (.ireturn, 1) := by decide +kernel
theorem dX12_person_46 : decode cX12_person 46 = .ok (.bipush 90, 2) := by decide +kernel
theorem dX12_person_48 : decode cX12_person 48 = .ok (.iconst 4, 1) := by decide +kernel
theorem dX12_person_49 : decode cX12_person 49 = .ok (.iload_n 3, 1) := by decide +kernel
theorem dX12_person_50 : decode cX12_person 50 = .ok (.imul, 1) := by decide +kernel
theorem dX12_person_51 : decode cX12_person 51 = .ok (.iadd, 1) := by decide +kernel
theorem dX12_person_52 : decode cX12_person 52 = .ok (.istore 4, 2) := by decide +kernel
theorem dX12_person_54 : decode cX12_person 54 = .ok (.aload_n 0, 1) := by decide +kernel
theorem dX12_person_55 : decode cX12_person 55 = .ok (.getfield 9, 3) := by decide +kernel
theorem dX12_person_58 : decode cX12_person 58 = .ok (.iload 4, 2) := by decide +kernel
theorem dX12_person_60 : decode cX12_person 60 = .ok (.iload_n 1, 1) := by decide +kernel
theorem dX12_person_61 : decode cX12_person 61 = .ok (.iastore, 1) := by decide +kernel
theorem dX12_person_62 : decode cX12_person 62 = .ok (.aload_n 0, 1) := by decide +kernel
theorem dX12_person_63 : decode cX12_person 63 = .ok (.getfield 9, 3) := by decide +kernel
theorem dX12_person_66 : decode cX12_person 66 = .ok (.iload 4, 2) := by decide +kernel
theorem dX12_person_68 : decode cX12_person 68 = .ok (.iconst 1, 1) := by decide +kernel
theorem dX12_person_69 : decode cX12_person 69 = .ok (.iadd, 1) := by decide +kernel
theorem dX12_person_70 : decode cX12_person 70 = .ok (.iload_n 2, 1) := by decide +kernel
theorem dX12_person_71 : decode cX12_person 71 = .ok (.iastore, 1) := by decide +kernel
theorem dX12_person_72 : decode cX12_person 72 = .ok (.aload_n 0, 1) := by decide +kernel
theorem dX12_person_73 : decode cX12_person 73 = .ok (.getfield 9, 3) := by decide +kernel
theorem dX12_person_76 : decode cX12_person 76 = .ok (.iload 4, 2) := by decide +kernel
theorem dX12_person_78 : decode cX12_person 78 = .ok (.iconst 2, 1) := by decide +kernel
theorem dX12_person_79 : decode cX12_person 79 = .ok (.iadd, 1) := by decide +kernel
theorem dX12_person_80 : decode cX12_person 80 = .ok (.iconst (-1), 1) := by decide +kernel
theorem dX12_person_81 : decode cX12_person 81 = .ok (.iastore, 1) := by decide +kernel
theorem dX12_person_82 : decode cX12_person 82 = .ok (.aload_n 0, 1) := by decide +kernel
theorem dX12_person_83 : decode cX12_person 83 = .ok (.getfield 9, 3) := by decide +kernel
theorem dX12_person_86 : decode cX12_person 86 = .ok (.iload 4, 2) := by decide +kernel
theorem dX12_person_88 : decode cX12_person 88 = .ok (.iconst 3, 1) := by decide +kernel
theorem dX12_person_89 : decode cX12_person 89 = .ok (.iadd, 1) := by decide +kernel
theorem dX12_person_90 : decode cX12_person 90 = .ok (.iconst 0, 1) := by decide +kernel
theorem dX12_person_91 : decode cX12_person 91 = .ok (.iastore, 1) := by decide +kernel
theorem dX12_person_92 : decode cX12_person 92 = .ok (.aload_n 0, 1) := by decide +kernel
theorem dX12_person_93 : decode cX12_person 93 = .ok (.getfield 9, 3) := by decide +kernel
theorem dX12_person_96 : decode cX12_person 96 = .ok (.iconst 4, 1) := by decide +kernel
theorem dX12_person_97 : decode cX12_person 97 = .ok (.dup2, 1) := by decide +kernel
theorem dX12_person_98 : decode cX12_person 98 = .ok (.iaload, 1) := by decide +kernel
theorem dX12_person_99 : decode cX12_person 99 = .ok (.iconst 1, 1) := by decide +kernel
theorem dX12_person_100 : decode cX12_person 100 = .ok (.iadd, 1) := by decide +kernel
theorem dX12_person_101 : decode cX12_person 101 = .ok (.iastore, 1) := by decide +kernel
theorem dX12_person_102 : decode cX12_person 102 = .ok (.iload_n 3, 1) := by decide +kernel
theorem dX12_person_103 : decode cX12_person 103 = .ok (.ireturn, 1) := by decide +kernel
theorem dX12_winch_0 : decode cX12_winch 0 = .ok (.aload_n 0, 1) := by decide +kernel
theorem dX12_winch_1 : decode cX12_winch 1 = .ok (.getfield 9, 3) := by decide +kernel
theorem dX12_winch_4 : decode cX12_winch 4 = .ok (.iconst 5, 1) := by decide +kernel
theorem dX12_winch_5 : decode cX12_winch 5 = .ok (.iaload, 1) := by decide +kernel
theorem dX12_winch_6 : decode cX12_winch 6 = .ok (.istore_n 1, 1) := by decide +kernel
theorem dX12_winch_7 : decode cX12_winch 7 = .ok (.iload_n 1, 1) := by decide +kernel
theorem dX12_winch_8 : decode cX12_winch 8 = .ok (.iconst 3, 1) := by decide +kernel
theorem dX12_winch_9 : decode cX12_winch 9 = .ok (.if_icmp .ne 10, 3) := by decide +kernel
theorem dX12_winch_12 : decode cX12_winch 12 = .ok (.aload_n 0, 1) := by decide +kernel
theorem dX12_winch_13 : decode cX12_winch 13 = .ok (.ldc 66, 2) := by decide +kernel
theorem dX12_winch_15 : decode cX12_winch 15 = .ok (.invokevirtual 62, 3) := by decide +kernel
theorem dX12_winch_18 : decode cX12_winch 18 = .ok (.ireturn, 1) := by decide +kernel
theorem dX12_winch_19 : decode cX12_winch 19 = .ok (.iconst 0, 1) := by decide +kernel
theorem dX12_winch_20 : decode cX12_winch 20 = .ok (.istore_n 2, 1) := by decide +kernel
theorem dX12_winch_21 : decode cX12_winch 21 = .ok (.iload_n 2, 1) := by decide +kernel
theorem dX12_winch_22 : decode cX12_winch 22 = .ok (.iconst 2, 1) := by decide +kernel
theorem dX12_winch_23 : decode cX12_winch 23 = .ok (.if_icmp .ge 43, 3) := by decide +kernel
theorem dX12_winch_26 : decode cX12_winch 26 = .ok (.aload_n 0, 1) := by decide +kernel
theorem dX12_winch_27 : decode cX12_winch 27 = .ok (.getfield 9, 3) := by decide +kernel
theorem dX12_winch_30 : decode cX12_winch 30 = .ok (.bipush 33, 2) := by decide +kernel
theorem dX12_winch_32 : decode cX12_winch 32 = .ok (.iconst 4, 1) := by decide +kernel
theorem dX12_winch_33 : decode cX12_winch 33 = .ok (.iload_n 1, 1) := by decide +kernel
theorem dX12_winch_34 : decode cX12_winch 34 = .ok (.imul, 1) := by decide +kernel
theorem dX12_winch_35 : decode cX12_winch 35 = .ok (.iadd, 1) := by decide +kernel
theorem dX12_winch_36 : decode cX12_winch 36 = .ok (.iconst 2, 1) := by decide +kernel
theorem dX12_winch_37 : decode cX12_winch 37 = .ok (.iload_n 2, 1) := by decide +kernel
theorem dX12_winch_38 : decode cX12_winch 38 = .ok (.imul, 1) := by decide +kernel
theorem dX12_winch_39 : decode cX12_winch 39 = .ok (.iadd, 1) := by decide +kernel
theorem dX12_winch_40 : decode cX12_winch 40 = .ok (.iconst 0, 1) := by decide +kernel
theorem dX12_winch_41 : decode cX12_winch 41 = .ok (.iastore, 1) := by decide +kernel
theorem dX12_winch_42 : decode cX12_winch 42 = .ok (.aload_n 0, 1) := by decide +kernel
theorem dX12_winch_43 : decode cX12_winch 43 = .ok (.getfield 9, 3) := by decide +kernel
theorem dX12_winch_46 : decode cX12_winch 46 = .ok (.bipush 33, 2) := by decide +kernel
theorem dX12_winch_48 : decode cX12_winch 48 = .ok (.iconst 4, 1) := by decide +kernel
theorem dX12_winch_49 : decode cX12_winch 49 = .ok (.iload_n 1, 1) := by decide +kernel
theorem dX12_winch_50 : decode cX12_winch 50 = .ok (.imul, 1) := by decide +kernel
theorem dX12_winch_51 : decode cX12_winch 51 = .ok (.iadd, 1) := by decide +kernel
theorem dX12_winch_52 : decode cX12_winch 52 = .ok (.iconst 2, 1) := by decide +kernel
theorem dX12_winch_53 : decode cX12_winch 53 = .ok (.iload_n 2, 1) := by decide +kernel
theorem dX12_winch_54 : decode cX12_winch 54 = .ok (.imul, 1) := by decide +kernel
theorem dX12_winch_55 : decode cX12_winch 55 = .ok (.iadd, 1) := by decide +kernel
theorem dX12_winch_56 : decode cX12_winch 56 = .ok (.iconst 1, 1) := by decide +kernel
theorem dX12_winch_57 : decode cX12_winch 57 = .ok (.iadd, 1) := by decide +kernel
theorem dX12_winch_58 : decode cX12_winch 58 = .ok (.iconst (-1), 1) := by decide +kernel
theorem dX12_winch_59 : decode cX12_winch 59 = .ok (.iastore, 1) := by decide +kernel
theorem dX12_winch_60 : decode cX12_winch 60 = .ok (.iinc 2 1, 3) := by decide +kernel
theorem dX12_winch_63 : decode cX12_winch 63 = .ok (.goto (-42), 3) := by decide +kernel
theorem dX12_winch_66 : decode cX12_winch 66 = .ok (.aload_n 0, 1) := by decide +kernel
theorem dX12_winch_67 : decode cX12_winch 67 = .ok (.getfield 9, 3) := by decide +kernel
theorem dX12_winch_70 : decode cX12_winch 70 = .ok (.iconst 5, 1) := by decide +kernel
theorem dX12_winch_71 : decode cX12_winch 71 = .ok (.dup2, 1) := by decide +kernel
theorem dX12_winch_72 : decode cX12_winch 72 = .ok (.iaload, 1) := by decide +kernel
theorem dX12_winch_73 : decode cX12_winch 73 = .ok (.iconst 1, 1) := by decide +kernel
theorem dX12_winch_74 : decode cX12_winch 74 = .ok (.iadd, 1) := by decide +kernel
theorem dX12_winch_75 : decode cX12_winch 75 = .ok (.iastore, 1) := by decide +kernel
theorem dX12_winch_76 : decode cX12_winch 76 = .ok (.iload_n 1, 1) := by decide +kernel
theorem dX12_winch_77 : decode cX12_winch 77 = .ok (.ireturn, 1) := by decide +kernel
theorem dX12_plane_0 : decode cX12_plane 0 = .ok (.aload_n 0, 1) := by decide +kernel
theorem dX12_plane_1 : decode cX12_plane 1 = .ok (.getfield 9, 3) := by decide +kernel
theorem dX12_plane_4 : decode cX12_plane 4 = .ok (.bipush 6, 2) := by decide +kernel
theorem dX12_plane_6 : decode cX12_plane 6 = .ok (.iaload, 1) := by decide +kernel
theorem dX12_plane_7 : decode cX12_plane 7 = .ok (.istore_n 1, 1) := by decide +kernel
theorem dX12_plane_8 : decode cX12_plane 8 = .ok (.iload_n 1, 1) := by decide +kernel
theorem dX12_plane_9 : decode cX12_plane 9 = .ok (.iconst 3, 1) := by decide +kernel
theorem dX12_plane_10 : decode cX12_plane 10 = .ok (.if_icmp .ne 10, 3) := by decide +kernel
theorem dX12_plane_13 : decode cX12_plane 13 = .ok (.aload_n 0, 1) := by decide +kernel
theorem dX12_plane_14 : decode cX12_plane 14 = .ok (.ldc 66, 2) := by decide +kernel
theorem dX12_plane_16 : decode cX12_plane 16 = .ok (.invokevirtual 62, 3) := by decide +kernel
theorem dX12_plane_19 : decode cX12_plane 19 = .ok (.ireturn, 1) := by decide +kernel
theorem dX12_plane_20 : decode cX12_plane 20 = .ok (.aload_n 0, 1) := by decide +kernel
theorem dX12_plane_21 : decode cX12_plane 21 = .ok (.getfield 9, 3) := by decide +kernel
theorem dX12_plane_24 : decode cX12_plane 24 = .ok (.bipush 30, 2) := by decide +kernel
theorem dX12_plane_26 : decode cX12_plane 26 = .ok (.iload_n 1, 1) := by decide +kernel
theorem dX12_plane_27 : decode cX12_plane 27 = .ok (.iadd, 1) := by decide +kernel
theorem dX12_plane_28 : decode cX12_plane 28 = .ok (.iconst (-1), 1) := by decide +kernel
theorem dX12_plane_29 : decode cX12_plane 29 = .ok (.iastore, 1) := by decide +kernel
theorem dX12_plane_30 : decode cX12_plane 30 = .ok (.aload_n 0, 1) := by decide +kernel
theorem dX12_plane_31 : decode cX12_plane 31 = .ok (.getfield 9, 3) := by decide +kernel
theorem dX12_plane_34 : decode cX12_plane 34 = .ok (.bipush 6, 2) := by decide +kernel
theorem dX12_plane_36 : decode cX12_plane 36 = .ok (.dup2, 1) := by decide +kernel
theorem dX12_plane_37 : decode cX12_plane 37 = .ok (.iaload, 1) := by decide +kernel
theorem dX12_plane_38 : decode cX12_plane 38 = .ok (.iconst 1, 1) := by decide +kernel
theorem dX12_plane_39 : decode cX12_plane 39 = .ok (.iadd, 1) := by decide +kernel
theorem dX12_plane_40 : decode cX12_plane 40 = .ok (.iastore, 1) := by decide +kernel
theorem dX12_plane_41 : decode cX12_plane 41 = .ok (.iload_n 1, 1) := by decide +kernel
theorem dX12_plane_42 : decode cX12_plane 42 = .ok (.ireturn, 1) := by decide +kernel
theorem dX12_isInRow_0 : decode cX12_isInRow 0 = .ok (.iconst 1, 1) := by decide +kernel
theorem dX12_isInRow_1 : decode cX12_isInRow 1 = .ok (.istore_n 2, 1) := by decide +kernel
theorem dX12_isInRow_2 : decode cX12_isInRow 2 = .ok (.iconst 0, 1) := by decide +kernel
theorem dX12_isInRow_3 : decode cX12_isInRow 3 = .ok (.istore_n 3, 1) := by decide +kernel
theorem dX12_isInRow_4 : decode cX12_isInRow 4 = .ok (.iload_n 3, 1) := by decide +kernel
theorem dX12_isInRow_5 : decode cX12_isInRow 5 = .ok (.aload_n 0, 1) := by decide +kernel
theorem dX12_isInRow_6 : decode cX12_isInRow 6 = .ok (.getfield 9, 3) := by decide +kernel
theorem dX12_isInRow_9 : decode cX12_isInRow 9 = .ok (.bipush 7, 2) := by decide +kernel
theorem dX12_isInRow_11 : decode cX12_isInRow 11 = .ok (.iaload, 1) := by decide +kernel
theorem dX12_isInRow_12 : decode cX12_isInRow 12 = .ok (.if_icmp .ge 40, 3) := by decide +kernel
theorem dX12_isInRow_15 : decode cX12_isInRow 15 = .ok (.iload_n 2, 1) := by decide +kernel
theorem dX12_isInRow_16 : decode cX12_isInRow 16 = .ok (.ifCond .eq 28, 3) := by decide +kernel
theorem dX12_isInRow_19 : decode cX12_isInRow 19 = .ok (.aload_n 0, 1) := by decide +kernel
theorem dX12_isInRow_20 : decode cX12_isInRow 20 = .ok (.iload_n 3, 1) := by decide +kernel
theorem dX12_isInRow_21 : decode cX12_isInRow 21 = .ok (.bipush 6, 2) := by decide +kernel
theorem dX12_isInRow_23 : decode cX12_isInRow 23 = .ok (.invokevirtual 67, 3) := by decide +kernel
theorem dX12_isInRow_26 : decode cX12_isInRow 26 = .ok (.iconst 1, 1) := by decide +kernel
theorem dX12_isInRow_27 : decode cX12_isInRow 27 = .ok (.if_icmp .ne 13, 3) := by decide +kernel
theorem dX12_isInRow_30 : decode cX12_isInRow 30 = .ok (.aload_n 0, 1) := by decide +kernel
theorem dX12_isInRow_31 : decode cX12_isInRow 31 = .ok (.iload_n 3, 1) := by decide +kernel
theorem dX12_isInRow_32 : decode cX12_isInRow 32 = .ok (.iconst 2, 1) := by decide +kernel
theorem dX12_isInRow_33 : decode cX12_isInRow 33 = .ok (.invokevirtual 67, 3) := by decide +kernel
theorem dX12_isInRow_36 : decode cX12_isInRow 36 = .ok (.iload_n 1, 1) := by decide +kernel
theorem dX12_isInRow_37 : decode cX12_isInRow 37 = .ok (.if_icmp .eq 7, 3) := by decide +kernel
theorem dX12_isInRow_40 : decode cX12_isInRow 40 = .ok (.iconst 1, 1) := by decide +kernel
theorem dX12_isInRow_41 : decode cX12_isInRow 41 = .ok (.goto 4, 3) := by decide +kernel
theorem dX12_isInRow_44 : decode cX12_isInRow 44 = .ok (.iconst 0, 1) := by decide +kernel
theorem dX12_isInRow_45 : decode cX12_isInRow 45 = .ok (.istore_n 2, 1) := by decide +kernel
theorem dX12_isInRow_46 : decode cX12_isInRow 46 = .ok (.iinc 3 1, 3) := by decide +kernel
theorem dX12_isInRow_49 : decode cX12_isInRow 49 = .ok (.goto (-45), 3) := by decide +kernel
theorem dX12_isInRow_52 : decode cX12_isInRow 52 = .ok (.iload_n 2, 1) := by decide +kernel
theorem dX12_isInRow_53 : decode cX12_isInRow 53 = .ok (.ireturn, 1) := by decide +kernel
theorem dX12_isInAir_0 : decode cX12_isInAir 0 = .ok (.iconst 0, 1) := by decide +kernel
theorem dX12_isInAir_1 : decode cX12_isInAir 1 = .ok (.istore_n 2, 1) := by decide +kernel
theorem dX12_isInAir_2 : decode cX12_isInAir 2 = .ok (.iconst 0, 1) := by decide +kernel
theorem dX12_isInAir_3 : decode cX12_isInAir 3 = .ok (.istore_n 3, 1) := by decide +kernel
theorem dX12_isInAir_4 : decode cX12_isInAir 4 = .ok (.iload_n 3, 1) := by decide +kernel
theorem dX12_isInAir_5 : decode cX12_isInAir 5 = .ok (.aload_n 0, 1) := by decide +kernel
theorem dX12_isInAir_6 : decode cX12_isInAir 6 = .ok (.getfield 9, 3) := by decide +kernel
theorem dX12_isInAir_9 : decode cX12_isInAir 9 = .ok (.bipush 7, 2) := by decide +kernel
theorem dX12_isInAir_11 : decode cX12_isInAir 11 = .ok (.iaload, 1) := by decide +kernel
theorem dX12_isInAir_12 : decode cX12_isInAir 12 = .ok (.if_icmp .ge 50, 3) := by decide +kernel
theorem dX12_isInAir_15 : decode cX12_isInAir 15 = .ok (.iload_n 2, 1) := by decide +kernel
theorem dX12_isInAir_16 : decode cX12_isInAir 16 = .ok (.ifCond .ne 34, 3) := by decide +kernel
theorem dX12_isInAir_19 : decode cX12_isInAir 19 = .ok (.aload_n 0, 1) := by decide +kernel
theorem dX12_isInAir_20 : decode cX12_isInAir 20 = .ok (.iload_n 3, 1) := by decide +kernel
theorem dX12_isInAir_21 : decode cX12_isInAir 21 = .ok (.bipush 6, 2) := by decide +kernel
theorem dX12_isInAir_23 : decode cX12_isInAir 23 = .ok (.invokevirtual 67, 3) := by decide +kernel
theorem dX12_isInAir_26 : decode cX12_isInAir 26 = .ok (.iconst 1, 1) := by decide +kernel
theorem dX12_isInAir_27 : decode cX12_isInAir 27 = .ok (.if_icmp .ne 27, 3) := by decide +kernel
theorem dX12_isInAir_30 : decode cX12_isInAir 30 = .ok (.aload_n 0, 1) := by decide +kernel
theorem dX12_isInAir_31 : decode cX12_isInAir 31 = .ok (.iload_n 3, 1) := by decide +kernel
theorem dX12_isInAir_32 : decode cX12_isInAir 32 = .ok (.iconst 0, 1) := by decide +kernel
theorem dX12_isInAir_33 : decode cX12_isInAir 33 = .ok (.invokevirtual 67, 3) := by decide +kernel
theorem dX12_isInAir_36 : decode cX12_isInAir 36 = .ok (.iload_n 1, 1) := by decide +kernel
theorem dX12_isInAir_37 : decode cX12_isInAir 37 = .ok (.if_icmp .eq 13, 3) := by decide +kernel
theorem dX12_isInAir_40 : decode cX12_isInAir 40 = .ok (.aload_n 0, 1) := by decide +kernel
theorem dX12_isInAir_41 : decode cX12_isInAir 41 = .ok (.iload_n 3, 1) := by decide +kernel
theorem dX12_isInAir_42 : decode cX12_isInAir 42 = .ok (.iconst 1, 1) := by decide +kernel
theorem dX12_isInAir_43 : decode cX12_isInAir 43 = .ok (.invokevirtual 67, 3) := by decide +kernel
theorem dX12_isInAir_46 : decode cX12_isInAir 46 = .ok (.iload_n 1, 1) := by decide +kernel
theorem dX12_isInAir_47 : decode cX12_isInAir 47 = .ok (.if_icmp .ne 7, 3) := by decide +kernel
theorem dX12_isInAir_50 : decode cX12_isInAir 50 = .ok (.iconst 1, 1) := by decide +kernel
theorem dX12_isInAir_51 : decode cX12_isInAir 51 = .ok (.goto 4, 3) := by decide +kernel
theorem dX12_isInAir_54 : decode cX12_isInAir 54 = .ok (.iconst 0, 1) := by decide +kernel
theorem dX12_isInAir_55 : decode cX12_isInAir 55 = .ok (.istore_n 2, 1) := by decide +kernel
theorem dX12_isInAir_56 : decode cX12_isInAir 56 = .ok (.iinc 3 1, 3) := by decide +kernel
theorem dX12_isInAir_59 : decode cX12_isInAir 59 = .ok (.goto (-55), 3) := by decide +kernel
theorem dX12_isInAir_62 : decode cX12_isInAir 62 = .ok (.iload_n 2, 1) := by decide +kernel
theorem dX12_isInAir_63 : decode cX12_isInAir 63 = .ok (.ireturn, 1) := by decide +kernel
theorem dX12_gliderIs_0 : decode cX12_gliderIs 0 = .ok (.aload_n 0, 1) := by decide +kernel
theorem dX12_gliderIs_1 : decode cX12_gliderIs 1 = .ok (.iload_n 1, 1) := by decide +kernel
theorem dX12_gliderIs_2 : decode cX12_gliderIs 2 = .ok (.iconst 3, 1) := by decide +kernel
theorem dX12_gliderIs_3 : decode cX12_gliderIs 3 = .ok (.invokevirtual 71, 3) := by decide +kernel
theorem dX12_gliderIs_6 : decode cX12_gliderIs 6 = .ok (.ifCond .eq 12, 3) := by decide +kernel
theorem dX12_gliderIs_9 : decode cX12_gliderIs 9 = .ok (.iload_n 2, 1) := by decide +kernel
theorem dX12_gliderIs_10 : decode cX12_gliderIs 10 = .ok (.iconst 0, 1) := by decide +kernel
theorem dX12_gliderIs_11 : decode cX12_gliderIs 11 = .ok (.iconst 4, 1) := by decide +kernel
theorem dX12_gliderIs_12 : decode cX12_gliderIs 12 = .ok (.invokestatic 58, 3) := by decide +kernel
theorem dX12_gliderIs_15 : decode cX12_gliderIs 15 = .ok (.ifCond .ne 10, 3) := by decide +kernel
theorem dX12_gliderIs_18 : decode cX12_gliderIs 18 = .ok (.aload_n 0, 1) := by decide +kernel
theorem dX12_gliderIs_19 : decode cX12_gliderIs 19 = .ok (.ldc 57, 2) := by decide +kernel
theorem dX12_gliderIs_21 : decode cX12_gliderIs 21 = .ok (.invokevirtual 62, 3) := by decide +kernel
theorem dX12_gliderIs_24 : decode cX12_gliderIs 24 = .ok (.ireturn, 1) := by decide +kernel
theorem dX12_gliderIs_25 : decode cX12_gliderIs 25 = .ok (.iload_n 2, 1) := by decide +kernel
theorem dX12_gliderIs_26 : decode cX12_gliderIs 26 = .ok (.iconst 4, 1) := by decide +kernel
theorem dX12_gliderIs_27 : decode cX12_gliderIs 27 = .ok (.if_icmp .ge 12, 3) := by decide +kernel
theorem dX12_gliderIs_30 : decode cX12_gliderIs 30 = .ok (.aload_n 0, 1) := by decide +kernel
theorem dX12_gliderIs_31 : decode cX12_gliderIs 31 = .ok (.iload_n 1, 1) := by decide +kernel
theorem dX12_gliderIs_32 : decode cX12_gliderIs 32 = .ok (.iload_n 2, 1) := by decide +kernel
theorem dX12_gliderIs_33 : decode cX12_gliderIs 33 = .ok (.invokevirtual 75, 3) := by decide +kernel
theorem dX12_gliderIs_36 : decode cX12_gliderIs 36 = .ok (.goto 16, 3) := by decide +kernel
theorem dX12_gliderIs_39 : decode cX12_gliderIs 39 = .ok (.aload_n 0, 1) := by decide +kernel
theorem dX12_gliderIs_40 : decode cX12_gliderIs 40 = .ok (.iload_n 1, 1) := by decide +kernel
theorem dX12_gliderIs_41 : decode cX12_gliderIs 41 = .ok (.invokevirtual 78, 3) := by decide +kernel
theorem dX12_gliderIs_44 : decode cX12_gliderIs 44 = .ok (.ifCond .eq 7, 3) := by decide +kernel
theorem dX12_gliderIs_47 : decode cX12_gliderIs 47 = .ok (.iconst 1, 1) := by decide +kernel
theorem dX12_gliderIs_48 : decode cX12_gliderIs 48 = .ok (.goto 4, 3) := by decide +kernel
theorem dX12_gliderIs_51 : decode cX12_gliderIs 51 = .ok (.iconst 0, 1) := by decide +kernel
theorem dX12_gliderIs_52 : decode cX12_gliderIs 52 = .ok (.ireturn, 1) := by decide +kernel
theorem dX12_personIs_0 : decode cX12_personIs 0 = .ok (.aload_n 0, 1) := by decide +kernel
theorem dX12_personIs_1 : decode cX12_personIs 1 = .ok (.iload_n 1, 1) := by decide +kernel
theorem dX12_personIs_2 : decode cX12_personIs 2 = .ok (.iconst 4, 1) := by decide +kernel
theorem dX12_personIs_3 : decode cX12_personIs 3 = .ok (.invokevirtual 71, 3) := by decide +kernel
theorem dX12_personIs_6 : decode cX12_personIs 6 = .ok (.ifCond .eq 12, 3) := by decide +kernel
theorem dX12_personIs_9 : decode cX12_personIs 9 = .ok (.iload_n 2, 1) := by decide +kernel
theorem dX12_personIs_10 : decode cX12_personIs 10 = .ok (.iconst 0, 1) := by decide +kernel
theorem dX12_personIs_11 : decode cX12_personIs 11 = .ok (.iconst 4, 1) := by decide +kernel
theorem dX12_personIs_12 : decode cX12_personIs 12 = .ok (.invokestatic 58, 3) := by decide +kernel
theorem dX12_personIs_15 : decode cX12_personIs 15 = .ok (.ifCond .ne 10, 3) := by decide +kernel
theorem dX12_personIs_18 : decode cX12_personIs 18 = .ok (.aload_n 0, 1) := by decide +kernel
theorem dX12_personIs_19 : decode cX12_personIs 19 = .ok (.ldc 57, 2) := by decide +kernel
theorem dX12_personIs_21 : decode cX12_personIs 21 = .ok (.invokevirtual 62, 3) := by decide +kernel
theorem dX12_personIs_24 : decode cX12_personIs 24 = .ok (.ireturn, 1) := by decide +kernel
theorem dX12_personIs_25 : decode cX12_personIs 25 = .ok (.iload_n 2, 1) := by decide +kernel
theorem dX12_personIs_26 : decode cX12_personIs 26 = .ok (.iconst 4, 1) := by decide +kernel
theorem dX12_personIs_27 : decode cX12_personIs 27 = .ok (.if_icmp .ge 12, 3) := by decide +kernel
theorem dX12_personIs_30 : decode cX12_personIs 30 = .ok (.aload_n 0, 1) := by decide +kernel
theorem dX12_personIs_31 : decode cX12_personIs 31 = .ok (.iload_n 1, 1) := by decide +kernel
theorem dX12_personIs_32 : decode cX12_personIs 32 = .ok (.iload_n 2, 1) := by decide +kernel
theorem dX12_personIs_33 : decode cX12_personIs 33 = .ok (.invokevirtual 82, 3) := by decide +kernel
theorem dX12_personIs_36 : decode cX12_personIs 36 = .ok (.goto 16, 3) := by decide +kernel
theorem dX12_personIs_39 : decode cX12_personIs 39 = .ok (.aload_n 0, 1) := by decide +kernel
theorem dX12_personIs_40 : decode cX12_personIs 40 = .ok (.iload_n 1, 1) := by decide +kernel
theorem dX12_personIs_41 : decode cX12_personIs 41 = .ok (.invokevirtual 85, 3) := by decide +kernel
theorem dX12_personIs_44 : decode cX12_personIs 44 = .ok (.ifCond .eq 7, 3) := by decide +kernel
theorem dX12_personIs_47 : decode cX12_personIs 47 = .ok (.iconst 1, 1) := by decide +kernel
theorem dX12_personIs_48 : decode cX12_personIs 48 = .ok (.goto 4, 3) := by decide +kernel
theorem dX12_personIs_51 : decode cX12_personIs 51 = .ok (.iconst 0, 1) := by decide +kernel
theorem dX12_personIs_52 : decode cX12_personIs 52 = .ok (.ireturn, 1) := by decide +kernel
theorem dX12_bit_0 : decode cX12_bit 0 = .ok (.aload_n 0, 1) := by decide +kernel
theorem dX12_bit_1 : decode cX12_bit 1 = .ok (.getfield 9, 3) := by decide +kernel
theorem dX12_bit_4 : decode cX12_bit 4 = .ok (.iload_n 1, 1) := by decide +kernel
theorem dX12_bit_5 : decode cX12_bit 5 = .ok (.iaload, 1) := by decide +kernel
theorem dX12_bit_6 : decode cX12_bit 6 = .ok (.istore 4, 2) := by decide +kernel
theorem dX12_bit_8 : decode cX12_bit 8 = .ok (.aload_n 0, 1) := by decide +kernel
theorem dX12_bit_9 : decode cX12_bit 9 = .ok (.getfield 9, 3) := by decide +kernel
theorem dX12_bit_12 : decode cX12_bit 12 = .ok (.iload_n 1, 1) := by decide +kernel
theorem dX12_bit_13 : decode cX12_bit 13 = .ok (.iload_n 3, 1) := by decide +kernel
theorem dX12_bit_14 : decode cX12_bit 14 = .ok (.ifCond .eq 12, 3) := by decide +kernel
theorem dX12_bit_17 : decode cX12_bit 17 = .ok (.iload 4, 2) := by decide +kernel
theorem dX12_bit_19 : decode cX12_bit 19 = .ok (.iconst 1, 1) := by decide +kernel
theorem dX12_bit_20 : decode cX12_bit 20 = .ok (.iload_n 2, 1) := by decide +kernel
theorem dX12_bit_21 : decode cX12_bit 21 = .ok (.ishl, 1) := by decide +kernel
theorem dX12_bit_22 : decode cX12_bit 22 = .ok (.ior, 1) := by decide +kernel
theorem dX12_bit_23 : decode cX12_bit 23 = .ok (.goto 11, 3) := by decide +kernel
theorem dX12_bit_26 : decode cX12_bit 26 = .ok (.iload 4, 2) := by decide +kernel
theorem dX12_bit_28 : decode cX12_bit 28 = .ok (.iconst 1, 1) := by decide +kernel
theorem dX12_bit_29 : decode cX12_bit 29 = .ok (.iload_n 2, 1) := by decide +kernel
theorem dX12_bit_30 : decode cX12_bit 30 = .ok (.ishl, 1) := by decide +kernel
theorem dX12_bit_31 : decode cX12_bit 31 = .ok (.iconst (-1), 1) := by decide +kernel
theorem dX12_bit_32 : decode cX12_bit 32 = .ok (.ixor, 1) := by decide +kernel
theorem dX12_bit_33 : decode cX12_bit 33 = .ok (.iand, 1) := by decide +kernel
theorem dX12_bit_34 : decode cX12_bit 34 = .ok (.iastore, 1) := by decide +kernel
theorem dX12_bit_35 : decode cX12_bit 35 = .ok (.aload_n 0, 1) := by decide +kernel
theorem dX12_bit_36 : decode cX12_bit 36 = .ok (.getfield 9, 3) := by decide +kernel
theorem dX12_bit_39 : decode cX12_bit 39 = .ok (.iload_n 1, 1) := by decide +kernel
theorem dX12_bit_40 : decode cX12_bit 40 = .ok (.iaload, 1) := by decide +kernel
theorem dX12_bit_41 : decode cX12_bit 41 = .ok (.iload 4, 2) := by decide +kernel
theorem dX12_bit_43 : decode cX12_bit 43 = .ok (.if_icmp .ne 7, 3) := by decide +kernel
theorem dX12_bit_46 : decode cX12_bit 46 = .ok (.iconst 0, 1) := by decide +kernel
theorem dX12_bit_47 : decode cX12_bit 47 = .ok (.goto 4, 3) := by decide +kernel
theorem dX12_bit_50 : decode cX12_bit 50 = .ok (.iconst 1, 1) := by decide +kernel
theorem dX12_bit_51 : decode cX12_bit 51 = .ok (.ireturn, 1) := by decide +kernel
theorem dX12_paper_0 : decode cX12_paper 0 = .ok (.aload_n 0, 1) := by decide +kernel
theorem dX12_paper_1 : decode cX12_paper 1 = .ok (.iload_n 1, 1) := by decide +kernel
theorem dX12_paper_2 : decode cX12_paper 2 = .ok (.iconst 4, 1) := by decide +kernel
theorem dX12_paper_3 : decode cX12_paper 3 = .ok (.invokevirtual 71, 3) := by decide +kernel
theorem dX12_paper_6 : decode cX12_paper 6 = .ok (.ifCond .eq 30, 3) := by decide +kernel
theorem dX12_paper_9 : decode cX12_paper 9 = .ok (.iload_n 2, 1) := by decide +kernel
theorem dX12_paper_10 : decode cX12_paper 10 = .ok (.iconst 1, 1) := by decide +kernel
theorem dX12_paper_11 : decode cX12_paper 11 = .ok (.bipush 6, 2) := by decide +kernel
theorem dX12_paper_13 : decode cX12_paper 13 = .ok (.invokestatic 58, 3) := by decide +kernel
theorem dX12_paper_16 : decode cX12_paper 16 = .ok (.ifCond .eq 20, 3) := by decide +kernel
theorem dX12_paper_19 : decode cX12_paper 19 = .ok (.aload_n 0, 1) := by decide +kernel
theorem dX12_paper_20 : decode cX12_paper 20 = .ok (.bipush 90, 2) := by decide +kernel
theorem dX12_paper_22 : decode cX12_paper 22 = .ok (.iconst 4, 1) := by decide +kernel
theorem dX12_paper_23 : decode cX12_paper 23 = .ok (.iload_n 1, 1) := by decide +kernel
theorem dX12_paper_24 : decode cX12_paper 24 = .ok (.imul, 1) := by decide +kernel
theorem dX12_paper_25 : decode cX12_paper 25 = .ok (.iadd, 1) := by decide +kernel
theorem dX12_paper_26 : decode cX12_paper 26 = .ok (.iconst 1, 1) := by decide +kernel
theorem dX12_paper_27 : decode cX12_paper 27 = .ok (.iadd, 1) := by decide +kernel
theorem dX12_paper_28 : decode cX12_paper 28 = .ok (.iload_n 2, 1) := by decide +kernel
theorem dX12_paper_29 : decode cX12_paper 29 = .ok (.iload_n 3, 1) := by decide +kernel
theorem dX12_paper_30 : decode cX12_paper 30 = .ok (.invokevirtual 88, 3) := by decide +kernel
theorem dX12_paper_33 : decode cX12_paper 33 = .ok (.goto 9, 3) := by decide +kernel
theorem dX12_paper_36 : decode cX12_paper 36 = .ok (.aload_n 0, 1) := by decide +kernel
theorem dX12_paper_37 : decode cX12_paper 37 = .ok (.ldc 57, 2) := by decide +kernel
theorem dX12_paper_39 : decode cX12_paper 39 = .ok (.invokevirtual 62, 3) := by decide +kernel
theorem dX12_paper_42 : decode cX12_paper 42 = .ok (.ireturn, 1) := by decide +kernel
theorem dX12_ropeAt_0 : decode cX12_ropeAt 0 = .ok (.bipush 33, 2) := by decide +kernel
theorem dX12_ropeAt_2 : decode cX12_ropeAt 2 = .ok (.iconst 4, 1) := by decide +kernel
theorem dX12_ropeAt_3 : decode cX12_ropeAt 3 = .ok (.iload_n 0, 1) := by decide +kernel
theorem dX12_ropeAt_4 : decode cX12_ropeAt 4 = .ok (.imul, 1) := by decide +kernel
theorem dX12_ropeAt_5 : decode cX12_ropeAt 5 = .ok (.iadd, 1) := by decide +kernel
theorem dX12_ropeAt_6 : decode cX12_ropeAt 6 = .ok (.iconst 2, 1) := by decide +kernel
theorem dX12_ropeAt_7 : decode cX12_ropeAt 7 = .ok (.iload_n 1, 1) := by decide +kernel
theorem dX12_ropeAt_8 : decode cX12_ropeAt 8 = .ok (.imul, 1) := by decide +kernel
theorem dX12_ropeAt_9 : decode cX12_ropeAt 9 = .ok (.iadd, 1) := by decide +kernel
theorem dX12_ropeAt_10 : decode cX12_ropeAt 10 = .ok (.ireturn, 1) := by decide +kernel
theorem dX12_rope_0 : decode cX12_rope 0 = .ok (.aload_n 0, 1) := by decide +kernel
theorem dX12_rope_1 : decode cX12_rope 1 = .ok (.iload_n 1, 1) := by decide +kernel
theorem dX12_rope_2 : decode cX12_rope 2 = .ok (.iconst 5, 1) := by decide +kernel
theorem dX12_rope_3 : decode cX12_rope 3 = .ok (.invokevirtual 71, 3) := by decide +kernel
theorem dX12_rope_6 : decode cX12_rope 6 = .ok (.ifCond .eq 21, 3) := by decide +kernel
theorem dX12_rope_9 : decode cX12_rope 9 = .ok (.iload_n 2, 1) := by decide +kernel
theorem dX12_rope_10 : decode cX12_rope 10 = .ok (.iconst 0, 1) := by decide +kernel
theorem dX12_rope_11 : decode cX12_rope 11 = .ok (.iconst 1, 1) := by decide +kernel
theorem dX12_rope_12 : decode cX12_rope 12 = .ok (.invokestatic 58, 3) := by decide +kernel
theorem dX12_rope_15 : decode cX12_rope 15 = .ok (.ifCond .eq 12, 3) := by decide +kernel
theorem dX12_rope_18 : decode cX12_rope 18 = .ok (.iload_n 3, 1) := by decide +kernel
theorem dX12_rope_19 : decode cX12_rope 19 = .ok (.iconst 0, 1) := by decide +kernel
theorem dX12_rope_20 : decode cX12_rope 20 = .ok (.iconst 1, 1) := by decide +kernel
theorem dX12_rope_21 : decode cX12_rope 21 = .ok (.invokestatic 58, 3) := by decide +kernel
theorem dX12_rope_24 : decode cX12_rope 24 = .ok (.ifCond .ne 10, 3) := by decide +kernel
theorem dX12_rope_27 : decode cX12_rope 27 = .ok (.aload_n 0, 1) := by decide +kernel
theorem dX12_rope_28 : decode cX12_rope 28 = .ok (.ldc 57, 2) := by decide +kernel
theorem dX12_rope_30 : decode cX12_rope 30 = .ok (.invokevirtual 62, 3) := by decide +kernel
theorem dX12_rope_33 : decode cX12_rope 33 = .ok (.ireturn, 1) := by decide +kernel
theorem dX12_rope_34 : decode cX12_rope 34 = .ok (.aload_n 0, 1) := by decide +kernel
theorem dX12_rope_35 : decode cX12_rope 35 = .ok (.getfield 9, 3) := by decide +kernel
theorem dX12_rope_38 : decode cX12_rope 38 = .ok (.iload_n 1, 1) := by decide +kernel
theorem dX12_rope_39 : decode cX12_rope 39 = .ok (.iload_n 2, 1) := by decide +kernel
theorem dX12_rope_40 : decode cX12_rope 40 = .ok (.invokestatic 92, 3) := by decide +kernel
theorem dX12_rope_43 : decode cX12_rope 43 = .ok (.iload_n 3, 1) := by decide +kernel
theorem dX12_rope_44 : decode cX12_rope 44 = .ok (.iadd, 1) := by decide +kernel
theorem dX12_rope_45 : decode cX12_rope 45 = .ok (.iaload, 1) := by decide +kernel
theorem dX12_rope_46 : decode cX12_rope 46 = .ok (.ireturn, 1) := by decide +kernel
theorem dX12_ropeIs_0 : decode cX12_ropeIs 0 = .ok (.aload_n 0, 1) := by decide +kernel
theorem dX12_ropeIs_1 : decode cX12_ropeIs 1 = .ok (.getfield 9, 3) := by decide +kernel
theorem dX12_ropeIs_4 : decode cX12_ropeIs 4 = .ok (.iload_n 1, 1) := by decide +kernel
theorem dX12_ropeIs_5 : decode cX12_ropeIs 5 = .ok (.iload_n 2, 1) := by decide +kernel
theorem dX12_ropeIs_6 : decode cX12_ropeIs 6 = .ok (.invokestatic 92, 3) := by decide +kernel
theorem dX12_ropeIs_9 : decode cX12_ropeIs 9 = .ok (.iload_n 3, 1) := by decide +kernel
theorem dX12_ropeIs_10 : decode cX12_ropeIs 10 = .ok (.iastore, 1) := by decide +kernel
theorem dX12_ropeIs_11 : decode cX12_ropeIs 11 = .ok (.aload_n 0, 1) := by decide +kernel
theorem dX12_ropeIs_12 : decode cX12_ropeIs 12 = .ok (.getfield 9, 3) := by decide +kernel
theorem dX12_ropeIs_15 : decode cX12_ropeIs 15 = .ok (.iload_n 1, 1) := by decide +kernel
theorem dX12_ropeIs_16 : decode cX12_ropeIs 16 = .ok (.iload_n 2, 1) := by decide +kernel
theorem dX12_ropeIs_17 : decode cX12_ropeIs 17 = .ok (.invokestatic 92, 3) := by decide +kernel
theorem dX12_ropeIs_20 : decode cX12_ropeIs 20 = .ok (.iconst 1, 1) := by decide +kernel
theorem dX12_ropeIs_21 : decode cX12_ropeIs 21 = .ok (.iadd, 1) := by decide +kernel
theorem dX12_ropeIs_22 : decode cX12_ropeIs 22 = .ok (.iload 4, 2) := by decide +kernel
theorem dX12_ropeIs_24 : decode cX12_ropeIs 24 = .ok (.iastore, 1) := by decide +kernel
theorem dX12_ropeIs_25 : decode cX12_ropeIs 25 = .ok (.return_, 1) := by decide +kernel
theorem dX12_broken_0 : decode cX12_broken 0 = .ok (.aload_n 0, 1) := by decide +kernel
theorem dX12_broken_1 : decode cX12_broken 1 = .ok (.iload_n 1, 1) := by decide +kernel
theorem dX12_broken_2 : decode cX12_broken 2 = .ok (.iconst 5, 1) := by decide +kernel
theorem dX12_broken_3 : decode cX12_broken 3 = .ok (.invokevirtual 71, 3) := by decide +kernel
theorem dX12_broken_6 : decode cX12_broken 6 = .ok (.ifCond .eq 12, 3) := by decide +kernel
theorem dX12_broken_9 : decode cX12_broken 9 = .ok (.iload_n 2, 1) := by decide +kernel
theorem dX12_broken_10 : decode cX12_broken 10 = .ok (.iconst 0, 1) := by decide +kernel
theorem dX12_broken_11 : decode cX12_broken 11 = .ok (.iconst 1, 1) := by decide +kernel
theorem dX12_broken_12 : decode cX12_broken 12 = .ok (.invokestatic 58, 3) := by decide +kernel
theorem dX12_broken_15 : decode cX12_broken 15 = .ok (.ifCond .ne 10, 3) := by decide +kernel
theorem dX12_broken_18 : decode cX12_broken 18 = .ok (.aload_n 0, 1) := by decide +kernel
theorem dX12_broken_19 : decode cX12_broken 19 = .ok (.ldc 57, 2) := by decide +kernel
theorem dX12_broken_21 : decode cX12_broken 21 = .ok (.invokevirtual 62, 3) := by decide +kernel
theorem dX12_broken_24 : decode cX12_broken 24 = .ok (.ireturn, 1) := by decide +kernel
theorem dX12_broken_25 : decode cX12_broken 25 = .ok (.aload_n 0, 1) := by decide +kernel
theorem dX12_broken_26 : decode cX12_broken 26 = .ok (.getfield 9, 3) := by decide +kernel
theorem dX12_broken_29 : decode cX12_broken 29 = .ok (.iload_n 1, 1) := by decide +kernel
theorem dX12_broken_30 : decode cX12_broken 30 = .ok (.iload_n 2, 1) := by decide +kernel
theorem dX12_broken_31 : decode cX12_broken 31 = .ok (.invokestatic 92, 3) := by decide +kernel
theorem dX12_broken_34 : decode cX12_broken 34 = .ok (.iaload, 1) := by decide +kernel
theorem dX12_broken_35 : decode cX12_broken 35 = .ok (.iconst 3, 1) := by decide +kernel
theorem dX12_broken_36 : decode cX12_broken 36 = .ok (.if_icmp .ne 10, 3) := by decide +kernel
theorem dX12_broken_39 : decode cX12_broken 39 = .ok (.aload_n 0, 1) := by decide +kernel
theorem dX12_broken_40 : decode cX12_broken 40 = .ok (.ldc 95, 2) := by decide +kernel
theorem dX12_broken_42 : decode cX12_broken 42 = .ok (.invokevirtual 62, 3) := by decide +kernel
theorem dX12_broken_45 : decode cX12_broken 45 = .ok (.ireturn, 1) := by decide +kernel
theorem dX12_broken_46 : decode cX12_broken 46 = .ok (.aload_n 0, 1) := by decide +kernel
theorem dX12_broken_47 : decode cX12_broken 47 = .ok (.iload_n 1, 1) := by decide +kernel
theorem dX12_broken_48 : decode cX12_broken 48 = .ok (.iload_n 2, 1) := by decide +kernel
theorem dX12_broken_49 : decode cX12_broken 49 = .ok (.iconst 3, 1) := by decide +kernel
theorem dX12_broken_50 : decode cX12_broken 50 = .ok (.aload_n 0, 1) := by decide +kernel
theorem dX12_broken_51 : decode cX12_broken 51 = .ok (.getfield 9, 3) := by decide +kernel
theorem dX12_broken_54 : decode cX12_broken 54 = .ok (.iconst 0, 1) := by decide +kernel
theorem dX12_broken_55 : decode cX12_broken 55 = .ok (.iaload, 1) := by decide +kernel
theorem dX12_broken_56 : decode cX12_broken 56 = .ok (.aload_n 0, 1) := by decide +kernel
theorem dX12_broken_57 : decode cX12_broken 57 = .ok (.getfield 9, 3) := by decide +kernel
theorem dX12_broken_60 : decode cX12_broken 60 = .ok (.bipush 28, 2) := by decide +kernel
theorem dX12_broken_62 : decode cX12_broken 62 = .ok (.iaload, 1) := by decide +kernel
theorem dX12_broken_63 : decode cX12_broken 63 = .ok (.iadd, 1) := by decide +kernel
theorem dX12_broken_64 : decode cX12_broken 64 = .ok (.invokevirtual 96, 3) := by decide +kernel
theorem dX12_broken_67 : decode cX12_broken 67 = .ok (.aload_n 0, 1) := by decide +kernel
theorem dX12_broken_68 : decode cX12_broken 68 = .ok (.getfield 9, 3) := by decide +kernel
theorem dX12_broken_71 : decode cX12_broken 71 = .ok (.iload_n 1, 1) := by decide +kernel
theorem dX12_broken_72 : decode cX12_broken 72 = .ok (.iload_n 2, 1) := by decide +kernel
theorem dX12_broken_73 : decode cX12_broken 73 = .ok (.invokestatic 92, 3) := by decide +kernel
theorem dX12_broken_76 : decode cX12_broken 76 = .ok (.iconst 1, 1) := by decide +kernel
theorem dX12_broken_77 : decode cX12_broken 77 = .ok (.iadd, 1) := by decide +kernel
theorem dX12_broken_78 : decode cX12_broken 78 = .ok (.iaload, 1) := by decide +kernel
theorem dX12_broken_79 : decode cX12_broken 79 = .ok (.ireturn, 1) := by decide +kernel
theorem dX12_tow_0 : decode cX12_tow 0 = .ok (.aload_n 0, 1) := by decide +kernel
theorem dX12_tow_1 : decode cX12_tow 1 = .ok (.iload_n 1, 1) := by decide +kernel
theorem dX12_tow_2 : decode cX12_tow 2 = .ok (.bipush 6, 2) := by decide +kernel
theorem dX12_tow_4 : decode cX12_tow 4 = .ok (.invokevirtual 71, 3) := by decide +kernel
theorem dX12_tow_7 : decode cX12_tow 7 = .ok (.ifCond .eq 15, 3) := by decide +kernel
theorem dX12_tow_10 : decode cX12_tow 10 = .ok (.aload_n 0, 1) := by decide +kernel
theorem dX12_tow_11 : decode cX12_tow 11 = .ok (.getfield 9, 3) := by decide +kernel
theorem dX12_tow_14 : decode cX12_tow 14 = .ok (.bipush 30, 2) := by decide +kernel
theorem dX12_tow_16 : decode cX12_tow 16 = .ok (.iload_n 1, 1) := by decide +kernel
theorem dX12_tow_17 : decode cX12_tow 17 = .ok (.iadd, 1) := by decide +kernel
theorem dX12_tow_18 : decode cX12_tow 18 = .ok (.iaload, 1) := by decide +kernel
theorem dX12_tow_19 : decode cX12_tow 19 = .ok (.goto 9, 3) := by decide +kernel
theorem dX12_tow_22 : decode cX12_tow 22 = .ok (.aload_n 0, 1) := by decide +kernel
theorem dX12_tow_23 : decode cX12_tow 23 = .ok (.ldc 57, 2) := by decide +kernel
theorem dX12_tow_25 : decode cX12_tow 25 = .ok (.invokevirtual 62, 3) := by decide +kernel
theorem dX12_tow_28 : decode cX12_tow 28 = .ok (.ireturn, 1) := by decide +kernel
theorem dX12_isLane_0 : decode cX12_isLane 0 = .ok (.iload_n 0, 1) := by decide +kernel
theorem dX12_isLane_1 : decode cX12_isLane 1 = .ok (.iconst 0, 1) := by decide +kernel
theorem dX12_isLane_2 : decode cX12_isLane 2 = .ok (.iconst 5, 1) := by decide +kernel
theorem dX12_isLane_3 : decode cX12_isLane 3 = .ok (.invokestatic 58, 3) := by decide +kernel
theorem dX12_isLane_6 : decode cX12_isLane 6 = .ok (.ireturn, 1) := by decide +kernel
theorem dX12_cross_0 : decode cX12_cross 0 = .ok (.iload_n 1, 1) := by decide +kernel
theorem dX12_cross_1 : decode cX12_cross 1 = .ok (.invokestatic 100, 3) := by decide +kernel
theorem dX12_cross_4 : decode cX12_cross 4 = .ok (.ifCond .eq 15, 3) := by decide +kernel
theorem dX12_cross_7 : decode cX12_cross 7 = .ok (.iload_n 2, 1) := by decide +kernel
theorem dX12_cross_8 : decode cX12_cross 8 = .ok (.invokestatic 100, 3) := by decide +kernel
theorem dX12_cross_11 : decode cX12_cross 11 = .ok (.ifCond .eq 8, 3) := by decide +kernel
theorem dX12_cross_14 : decode cX12_cross 14 = .ok (.iload_n 1, 1) := by decide +kernel
theorem dX12_cross_15 : decode cX12_cross 15 = .ok (.iload_n 2, 1) := by decide +kernel
theorem dX12_cross_16 : decode cX12_cross 16 = .ok (.if_icmp .ne 10, 3) := by decide +kernel
theorem dX12_cross_19 : decode cX12_cross 19 = .ok (.aload_n 0, 1) := by decide +kernel
theorem dX12_cross_20 : decode cX12_cross 20 = .ok (.ldc 57, 2) := by decide +kernel
theorem dX12_cross_22 : decode cX12_cross 22 = .ok (.invokevirtual 62, 3) := by decide +kernel
theorem dX12_cross_25 : decode cX12_cross 25 = .ok (.ireturn, 1) := by decide +kernel
theorem dX12_cross_26 : decode cX12_cross 26 = .ok (.aload_n 0, 1) := by decide +kernel
theorem dX12_cross_27 : decode cX12_cross 27 = .ok (.bipush 10, 2) := by decide +kernel
theorem dX12_cross_29 : decode cX12_cross 29 = .ok (.iload_n 2, 1) := by decide +kernel
theorem dX12_cross_30 : decode cX12_cross 30 = .ok (.iadd, 1) := by decide +kernel
theorem dX12_cross_31 : decode cX12_cross 31 = .ok (.iload_n 1, 1) := by decide +kernel
theorem dX12_cross_32 : decode cX12_cross 32 = .ok (.iload_n 3, 1) := by decide +kernel
theorem dX12_cross_33 : decode cX12_cross 33 = .ok (.invokevirtual 88, 3) := by decide +kernel
theorem dX12_cross_36 : decode cX12_cross 36 = .ok (.istore 4, 2) := by decide +kernel
theorem dX12_cross_38 : decode cX12_cross 38 = .ok (.aload_n 0, 1) := by decide +kernel
theorem dX12_cross_39 : decode cX12_cross 39 = .ok (.bipush 10, 2) := by decide +kernel
theorem dX12_cross_41 : decode cX12_cross 41 = .ok (.iload_n 1, 1) := by decide +kernel
theorem dX12_cross_42 : decode cX12_cross 42 = .ok (.iadd, 1) := by decide +kernel
theorem dX12_cross_43 : decode cX12_cross 43 = .ok (.iload_n 2, 1) := by decide +kernel
theorem dX12_cross_44 : decode cX12_cross 44 = .ok (.iload_n 3, 1) := by decide +kernel
theorem dX12_cross_45 : decode cX12_cross 45 = .ok (.invokevirtual 88, 3) := by decide +kernel
theorem dX12_cross_48 : decode cX12_cross 48 = .ok (.ireturn, 1) := by decide +kernel
theorem dX12_lane_0 : decode cX12_lane 0 = .ok (.iload_n 1, 1) := by decide +kernel
theorem dX12_lane_1 : decode cX12_lane 1 = .ok (.iconst 0, 1) := by decide +kernel
theorem dX12_lane_2 : decode cX12_lane 2 = .ok (.iconst 3, 1) := by decide +kernel
theorem dX12_lane_3 : decode cX12_lane 3 = .ok (.invokestatic 58, 3) := by decide +kernel
theorem dX12_lane_6 : decode cX12_lane 6 = .ok (.ifCond .eq 22, 3) := by decide +kernel
theorem dX12_lane_9 : decode cX12_lane 9 = .ok (.iload_n 2, 1) := by decide +kernel
theorem dX12_lane_10 : decode cX12_lane 10 = .ok (.invokestatic 100, 3) := by decide +kernel
theorem dX12_lane_13 : decode cX12_lane 13 = .ok (.ifCond .eq 15, 3) := by decide +kernel
theorem dX12_lane_16 : decode cX12_lane 16 = .ok (.aload_n 0, 1) := by decide +kernel
theorem dX12_lane_17 : decode cX12_lane 17 = .ok (.bipush 16, 2) := by decide +kernel
theorem dX12_lane_19 : decode cX12_lane 19 = .ok (.iload_n 1, 1) := by decide +kernel
theorem dX12_lane_20 : decode cX12_lane 20 = .ok (.iadd, 1) := by decide +kernel
theorem dX12_lane_21 : decode cX12_lane 21 = .ok (.iload_n 2, 1) := by decide +kernel
theorem dX12_lane_22 : decode cX12_lane 22 = .ok (.invokevirtual 103, 3) := by decide +kernel
theorem dX12_lane_25 : decode cX12_lane 25 = .ok (.goto 9, 3) := by decide +kernel
theorem dX12_lane_28 : decode cX12_lane 28 = .ok (.aload_n 0, 1) := by decide +kernel
theorem dX12_lane_29 : decode cX12_lane 29 = .ok (.ldc 57, 2) := by decide +kernel
theorem dX12_lane_31 : decode cX12_lane 31 = .ok (.invokevirtual 62, 3) := by decide +kernel
theorem dX12_lane_34 : decode cX12_lane 34 = .ok (.ireturn, 1) := by decide +kernel
theorem dX12_wind_0 : decode cX12_wind 0 = .ok (.iload_n 1, 1) := by decide +kernel
theorem dX12_wind_1 : decode cX12_wind 1 = .ok (.iconst 0, 1) := by decide +kernel
theorem dX12_wind_2 : decode cX12_wind 2 = .ok (.bipush 40, 2) := by decide +kernel
theorem dX12_wind_4 : decode cX12_wind 4 = .ok (.invokestatic 58, 3) := by decide +kernel
theorem dX12_wind_7 : decode cX12_wind 7 = .ok (.ifCond .eq 12, 3) := by decide +kernel
theorem dX12_wind_10 : decode cX12_wind 10 = .ok (.aload_n 0, 1) := by decide +kernel
theorem dX12_wind_11 : decode cX12_wind 11 = .ok (.iconst 1, 1) := by decide +kernel
theorem dX12_wind_12 : decode cX12_wind 12 = .ok (.iload_n 1, 1) := by decide +kernel
theorem dX12_wind_13 : decode cX12_wind 13 = .ok (.invokevirtual 103, 3) := by decide +kernel
theorem dX12_wind_16 : decode cX12_wind 16 = .ok (.goto 9, 3) := by decide +kernel
theorem dX12_wind_19 : decode cX12_wind 19 = .ok (.aload_n 0, 1) := by decide +kernel
theorem dX12_wind_20 : decode cX12_wind 20 = .ok (.ldc 57, 2) := by decide +kernel
theorem dX12_wind_22 : decode cX12_wind 22 = .ok (.invokevirtual 62, 3) := by decide +kernel
theorem dX12_wind_25 : decode cX12_wind 25 = .ok (.ireturn, 1) := by decide +kernel
theorem dX12_link_0 : decode cX12_link 0 = .ok (.iload_n 1, 1) := by decide +kernel
theorem dX12_link_1 : decode cX12_link 1 = .ok (.iconst 0, 1) := by decide +kernel
theorem dX12_link_2 : decode cX12_link 2 = .ok (.iconst 3, 1) := by decide +kernel
theorem dX12_link_3 : decode cX12_link 3 = .ok (.invokestatic 58, 3) := by decide +kernel
theorem dX12_link_6 : decode cX12_link 6 = .ok (.ifCond .eq 13, 3) := by decide +kernel
theorem dX12_link_9 : decode cX12_link 9 = .ok (.aload_n 0, 1) := by decide +kernel
theorem dX12_link_10 : decode cX12_link 10 = .ok (.iconst 2, 1) := by decide +kernel
theorem dX12_link_11 : decode cX12_link 11 = .ok (.iload_n 1, 1) := by decide +kernel
theorem dX12_link_12 : decode cX12_link 12 = .ok (.iload_n 2, 1) := by decide +kernel
theorem dX12_link_13 : decode cX12_link 13 = .ok (.invokevirtual 88, 3) := by decide +kernel
theorem dX12_link_16 : decode cX12_link 16 = .ok (.goto 9, 3) := by decide +kernel
theorem dX12_link_19 : decode cX12_link 19 = .ok (.aload_n 0, 1) := by decide +kernel
theorem dX12_link_20 : decode cX12_link 20 = .ok (.ldc 57, 2) := by decide +kernel
theorem dX12_link_22 : decode cX12_link 22 = .ok (.invokevirtual 62, 3) := by decide +kernel
theorem dX12_link_25 : decode cX12_link 25 = .ok (.ireturn, 1) := by decide +kernel
theorem dX12_rule_0 : decode cX12_rule 0 = .ok (.iload_n 1, 1) := by decide +kernel
theorem dX12_rule_1 : decode cX12_rule 1 = .ok (.ifCond .ne 13, 3) := by decide +kernel
theorem dX12_rule_4 : decode cX12_rule 4 = .ok (.iload_n 2, 1) := by decide +kernel
theorem dX12_rule_5 : decode cX12_rule 5 = .ok (.iconst 1, 1) := by decide +kernel
theorem dX12_rule_6 : decode cX12_rule 6 = .ok (.bipush 20, 2) := by decide +kernel
theorem dX12_rule_8 : decode cX12_rule 8 = .ok (.invokestatic 58, 3) := by decide +kernel
theorem dX12_rule_11 : decode cX12_rule 11 = .ok (.goto 54, 3) := by decide +kernel
theorem dX12_rule_14 : decode cX12_rule 14 = .ok (.iload_n 1, 1) := by decide +kernel
theorem dX12_rule_15 : decode cX12_rule 15 = .ok (.iconst 1, 1) := by decide +kernel
theorem dX12_rule_16 : decode cX12_rule 16 = .ok (.if_icmp .ne 14, 3) := by decide +kernel
theorem dX12_rule_19 : decode cX12_rule 19 = .ok (.iload_n 2, 1) := by decide +kernel
theorem dX12_rule_20 : decode cX12_rule 20 = .ok (.iconst 0, 1) := by decide +kernel
theorem dX12_rule_21 : decode cX12_rule 21 = .ok (.sipush 900, 3) := by decide +kernel
theorem dX12_rule_24 : decode cX12_rule 24 = .ok (.invokestatic 58, 3) := by decide +kernel
theorem dX12_rule_27 : decode cX12_rule 27 = .ok (.goto 38, 3) := by decide +kernel
theorem dX12_rule_30 : decode cX12_rule 30 = .ok (.iload_n 1, 1) := by decide +kernel
theorem dX12_rule_31 : decode cX12_rule 31 = .ok (.iconst 2, 1) := by decide +kernel
theorem dX12_rule_32 : decode cX12_rule 32 = .ok (.if_icmp .ne 13, 3) := by decide +kernel
theorem dX12_rule_35 : decode cX12_rule 35 = .ok (.iload_n 2, 1) := by decide +kernel
theorem dX12_rule_36 : decode cX12_rule 36 = .ok (.iconst 1, 1) := by decide +kernel
theorem dX12_rule_37 : decode cX12_rule 37 = .ok (.bipush 60, 2) := by decide +kernel
theorem dX12_rule_39 : decode cX12_rule 39 = .ok (.invokestatic 58, 3) := by decide +kernel
theorem dX12_rule_42 : decode cX12_rule 42 = .ok (.goto 23, 3) := by decide +kernel
theorem dX12_rule_45 : decode cX12_rule 45 = .ok (.iload_n 1, 1) := by decide +kernel
theorem dX12_rule_46 : decode cX12_rule 46 = .ok (.iconst 3, 1) := by decide +kernel
theorem dX12_rule_47 : decode cX12_rule 47 = .ok (.if_icmp .ne 17, 3) := by decide +kernel
theorem dX12_rule_50 : decode cX12_rule 50 = .ok (.iload_n 2, 1) := by decide +kernel
theorem dX12_rule_51 : decode cX12_rule 51 = .ok (.iconst 0, 1) := by decide +kernel
theorem dX12_rule_52 : decode cX12_rule 52 = .ok (.bipush 20, 2) := by decide +kernel
theorem dX12_rule_54 : decode cX12_rule 54 = .ok (.invokestatic 58, 3) := by decide +kernel
theorem dX12_rule_57 : decode cX12_rule 57 = .ok (.ifCond .eq 7, 3) := by decide +kernel
theorem dX12_rule_60 : decode cX12_rule 60 = .ok (.iconst 1, 1) := by decide +kernel
theorem dX12_rule_61 : decode cX12_rule 61 = .ok (.goto 4, 3) := by decide +kernel
theorem dX12_rule_64 : decode cX12_rule 64 = .ok (.iconst 0, 1) := by decide +kernel
theorem dX12_rule_65 : decode cX12_rule 65 = .ok (.istore_n 3, 1) := by decide +kernel
theorem dX12_rule_66 : decode cX12_rule 66 = .ok (.iload_n 3, 1) := by decide +kernel
theorem dX12_rule_67 : decode cX12_rule 67 = .ok (.ifCond .eq 15, 3) := by decide +kernel
theorem dX12_rule_70 : decode cX12_rule 70 = .ok (.aload_n 0, 1) := by decide +kernel
theorem dX12_rule_71 : decode cX12_rule 71 = .ok (.bipush 26, 2) := by decide +kernel
theorem dX12_rule_73 : decode cX12_rule 73 = .ok (.iload_n 1, 1) := by decide +kernel
theorem dX12_rule_74 : decode cX12_rule 74 = .ok (.iadd, 1) := by decide +kernel
theorem dX12_rule_75 : decode cX12_rule 75 = .ok (.iload_n 2, 1) := by decide +kernel
theorem dX12_rule_76 : decode cX12_rule 76 = .ok (.invokevirtual 103, 3) := by decide +kernel
theorem dX12_rule_79 : decode cX12_rule 79 = .ok (.goto 9, 3) := by decide +kernel
theorem dX12_rule_82 : decode cX12_rule 82 = .ok (.aload_n 0, 1) := by decide +kernel
theorem dX12_rule_83 : decode cX12_rule 83 = .ok (.ldc 57, 2) := by decide +kernel
theorem dX12_rule_85 : decode cX12_rule 85 = .ok (.invokevirtual 62, 3) := by decide +kernel
theorem dX12_rule_88 : decode cX12_rule 88 = .ok (.ireturn, 1) := by decide +kernel
theorem dX12_isKind_0 : decode cX12_isKind 0 = .ok (.iload_n 0, 1) := by decide +kernel
theorem dX12_isKind_1 : decode cX12_isKind 1 = .ok (.iconst 0, 1) := by decide +kernel
theorem dX12_isKind_2 : decode cX12_isKind 2 = .ok (.iconst 5, 1) := by decide +kernel
theorem dX12_isKind_3 : decode cX12_isKind 3 = .ok (.invokestatic 58, 3) := by decide +kernel
theorem dX12_isKind_6 : decode cX12_isKind 6 = .ok (.ireturn, 1) := by decide +kernel
theorem dX12_boundOf_0 : decode cX12_boundOf 0 = .ok (.iload_n 0, 1) := by decide +kernel
theorem dX12_boundOf_1 : decode cX12_boundOf 1 = .ok (.tableswitch 64 1 5 #[35, 64, 42, 49, 57], 35) := by decide +kernel
theorem dX12_boundOf_36 : decode cX12_boundOf 36 = .ok (.iconst 0, 1) := by decide +kernel
theorem dX12_boundOf_37 : decode cX12_boundOf 37 = .ok (.invokestatic 106, 3) := by decide +kernel
theorem dX12_boundOf_40 : decode cX12_boundOf 40 = .ok (.iconst 5, 1) := by decide +kernel
theorem dX12_boundOf_41 : decode cX12_boundOf 41 = .ok (.isub, 1) := by decide +kernel
theorem dX12_boundOf_42 : decode cX12_boundOf 42 = .ok (.ireturn, 1) := by decide +kernel
theorem dX12_boundOf_43 : decode cX12_boundOf 43 = .ok (.iconst 1, 1) := by decide +kernel
theorem dX12_boundOf_44 : decode cX12_boundOf 44 = .ok (.invokestatic 106, 3) := by decide +kernel
theorem dX12_boundOf_47 : decode cX12_boundOf 47 = .ok (.iconst 2, 1) := by decide +kernel
theorem dX12_boundOf_48 : decode cX12_boundOf 48 = .ok (.idiv, 1) := by decide +kernel
theorem dX12_boundOf_49 : decode cX12_boundOf 49 = .ok (.ireturn, 1) := by decide +kernel
theorem dX12_boundOf_50 : decode cX12_boundOf 50 = .ok (.iconst 0, 1) := by decide +kernel
theorem dX12_boundOf_51 : decode cX12_boundOf 51 = .ok (.invokestatic 106, 3) := by decide +kernel
theorem dX12_boundOf_54 : decode cX12_boundOf 54 = .ok (.bipush 10, 2) := by decide +kernel
theorem dX12_boundOf_56 : decode cX12_boundOf 56 = .ok (.isub, 1) := by decide +kernel
theorem dX12_boundOf_57 : decode cX12_boundOf 57 = .ok (.ireturn, 1) := by decide +kernel
theorem dX12_boundOf_58 : decode cX12_boundOf 58 = .ok (.iconst 2, 1) := by decide +kernel
theorem dX12_boundOf_59 : decode cX12_boundOf 59 = .ok (.invokestatic 106, 3) := by decide +kernel
theorem dX12_boundOf_62 : decode cX12_boundOf 62 = .ok (.iconst 3, 1) := by decide +kernel
theorem dX12_boundOf_63 : decode cX12_boundOf 63 = .ok (.iadd, 1) := by decide +kernel
theorem dX12_boundOf_64 : decode cX12_boundOf 64 = .ok (.ireturn, 1) := by decide +kernel
theorem dX12_boundOf_65 : decode cX12_boundOf 65 = .ok (.bipush 25, 2) := by decide +kernel
theorem dX12_boundOf_67 : decode cX12_boundOf 67 = .ok (.ireturn, 1) := by decide +kernel
theorem dX12_spanOf_0 : decode cX12_spanOf 0 = .ok (.iload_n 0, 1) := by decide +kernel
theorem dX12_spanOf_1 : decode cX12_spanOf 1 = .ok (.tableswitch 81 1 5 #[35, 51, 43, 61, 73], 35) := by decide +kernel
theorem dX12_spanOf_36 : decode cX12_spanOf 36 = .ok (.iconst 0, 1) := by decide +kernel
theorem dX12_spanOf_37 : decode cX12_spanOf 37 = .ok (.iload_n 1, 1) := by decide +kernel
theorem dX12_spanOf_38 : decode cX12_spanOf 38 = .ok (.invokestatic 109, 3) := by decide +kernel
theorem dX12_spanOf_41 : decode cX12_spanOf 41 = .ok (.iconst 1, 1) := by decide +kernel
theorem dX12_spanOf_42 : decode cX12_spanOf 42 = .ok (.iadd, 1) := by decide +kernel
theorem dX12_spanOf_43 : decode cX12_spanOf 43 = .ok (.ireturn, 1) := by decide +kernel
theorem dX12_spanOf_44 : decode cX12_spanOf 44 = .ok (.iconst 2, 1) := by decide +kernel
theorem dX12_spanOf_45 : decode cX12_spanOf 45 = .ok (.iconst 1, 1) := by decide +kernel
theorem dX12_spanOf_46 : decode cX12_spanOf 46 = .ok (.iload_n 1, 1) := by decide +kernel
theorem dX12_spanOf_47 : decode cX12_spanOf 47 = .ok (.invokestatic 109, 3) := by decide +kernel
theorem dX12_spanOf_50 : decode cX12_spanOf 50 = .ok (.imul, 1) := by decide +kernel
theorem dX12_spanOf_51 : decode cX12_spanOf 51 = .ok (.ireturn, 1) := by decide +kernel
theorem dX12_spanOf_52 : decode cX12_spanOf 52 = .ok (.iconst 0, 1) := by decide +kernel
theorem dX12_spanOf_53 : decode cX12_spanOf 53 = .ok (.iload_n 1, 1) := by decide +kernel
theorem dX12_spanOf_54 : decode cX12_spanOf 54 = .ok (.invokestatic 109, 3) := by decide +kernel
theorem dX12_spanOf_57 : decode cX12_spanOf 57 = .ok (.iload_n 1, 1) := by decide +kernel
theorem dX12_spanOf_58 : decode cX12_spanOf 58 = .ok (.iconst 5, 1) := by decide +kernel
theorem dX12_spanOf_59 : decode cX12_spanOf 59 = .ok (.idiv, 1) := by decide +kernel
theorem dX12_spanOf_60 : decode cX12_spanOf 60 = .ok (.iadd, 1) := by decide +kernel
theorem dX12_spanOf_61 : decode cX12_spanOf 61 = .ok (.ireturn, 1) := by decide +kernel
theorem dX12_spanOf_62 : decode cX12_spanOf 62 = .ok (.iconst 1, 1) := by decide +kernel
theorem dX12_spanOf_63 : decode cX12_spanOf 63 = .ok (.iconst 2, 1) := by decide +kernel
theorem dX12_spanOf_64 : decode cX12_spanOf 64 = .ok (.iload_n 1, 1) := by decide +kernel
theorem dX12_spanOf_65 : decode cX12_spanOf 65 = .ok (.invokestatic 109, 3) := by decide +kernel
theorem dX12_spanOf_68 : decode cX12_spanOf 68 = .ok (.iconst 1, 1) := by decide +kernel
theorem dX12_spanOf_69 : decode cX12_spanOf 69 = .ok (.isub, 1) := by decide +kernel
theorem dX12_spanOf_70 : decode cX12_spanOf 70 = .ok (.invokestatic 112, 3) := by decide +kernel
theorem dX12_spanOf_73 : decode cX12_spanOf 73 = .ok (.ireturn, 1) := by decide +kernel
theorem dX12_spanOf_74 : decode cX12_spanOf 74 = .ok (.iconst 2, 1) := by decide +kernel
theorem dX12_spanOf_75 : decode cX12_spanOf 75 = .ok (.iload_n 1, 1) := by decide +kernel
theorem dX12_spanOf_76 : decode cX12_spanOf 76 = .ok (.invokestatic 109, 3) := by decide +kernel
theorem dX12_spanOf_79 : decode cX12_spanOf 79 = .ok (.iconst 4, 1) := by decide +kernel
theorem dX12_spanOf_80 : decode cX12_spanOf 80 = .ok (.iadd, 1) := by decide +kernel
theorem dX12_spanOf_81 : decode cX12_spanOf 81 = .ok (.ireturn, 1) := by decide +kernel
theorem dX12_spanOf_82 : decode cX12_spanOf 82 = .ok (.iconst 1, 1) := by decide +kernel
theorem dX12_spanOf_83 : decode cX12_spanOf 83 = .ok (.ireturn, 1) := by decide +kernel
theorem dX12_bound_0 : decode cX12_bound 0 = .ok (.iload_n 1, 1) := by decide +kernel
theorem dX12_bound_1 : decode cX12_bound 1 = .ok (.invokestatic 117, 3) := by decide +kernel
theorem dX12_bound_4 : decode cX12_bound 4 = .ok (.ifCond .eq 10, 3) := by decide +kernel
theorem dX12_bound_7 : decode cX12_bound 7 = .ok (.iload_n 1, 1) := by decide +kernel
theorem dX12_bound_8 : decode cX12_bound 8 = .ok (.invokestatic 106, 3) := by decide +kernel
theorem dX12_bound_11 : decode cX12_bound 11 = .ok (.goto 9, 3) := by decide +kernel
theorem dX12_bound_14 : decode cX12_bound 14 = .ok (.aload_n 0, 1) := by decide +kernel
theorem dX12_bound_15 : decode cX12_bound 15 = .ok (.ldc 57, 2) := by decide +kernel
theorem dX12_bound_17 : decode cX12_bound 17 = .ok (.invokevirtual 62, 3) := by decide +kernel
theorem dX12_bound_20 : decode cX12_bound 20 = .ok (.ireturn, 1) := by decide +kernel
theorem dX12_span_0 : decode cX12_span 0 = .ok (.iload_n 1, 1) := by decide +kernel
theorem dX12_span_1 : decode cX12_span 1 = .ok (.invokestatic 117, 3) := by decide +kernel
theorem dX12_span_4 : decode cX12_span 4 = .ok (.ifCond .eq 21, 3) := by decide +kernel
theorem dX12_span_7 : decode cX12_span 7 = .ok (.iload_n 2, 1) := by decide +kernel
theorem dX12_span_8 : decode cX12_span 8 = .ok (.iconst 1, 1) := by decide +kernel
theorem dX12_span_9 : decode cX12_span 9 = .ok (.bipush 30, 2) := by decide +kernel
theorem dX12_span_11 : decode cX12_span 11 = .ok (.invokestatic 58, 3) := by decide +kernel
theorem dX12_span_14 : decode cX12_span 14 = .ok (.ifCond .eq 11, 3) := by decide +kernel
theorem dX12_span_17 : decode cX12_span 17 = .ok (.iload_n 1, 1) := by decide +kernel
theorem dX12_span_18 : decode cX12_span 18 = .ok (.iload_n 2, 1) := by decide +kernel
theorem dX12_span_19 : decode cX12_span 19 = .ok (.invokestatic 109, 3) := by decide +kernel
theorem dX12_span_22 : decode cX12_span 22 = .ok (.goto 9, 3) := by decide +kernel
theorem dX12_span_25 : decode cX12_span 25 = .ok (.aload_n 0, 1) := by decide +kernel
theorem dX12_span_26 : decode cX12_span 26 = .ok (.ldc 57, 2) := by decide +kernel
theorem dX12_span_28 : decode cX12_span 28 = .ok (.invokevirtual 62, 3) := by decide +kernel
theorem dX12_span_31 : decode cX12_span 31 = .ok (.ireturn, 1) := by decide +kernel
theorem dX12_ask_0 : decode cX12_ask 0 = .ok (.iload_n 2, 1) := by decide +kernel
theorem dX12_ask_1 : decode cX12_ask 1 = .ok (.iconst (-1), 1) := by decide +kernel
theorem dX12_ask_2 : decode cX12_ask 2 = .ok (.if_icmp .eq 17, 3) := by decide +kernel
theorem dX12_ask_5 : decode cX12_ask 5 = .ok (.aload_n 0, 1) := by decide +kernel
theorem dX12_ask_6 : decode cX12_ask 6 = .ok (.iload_n 2, 1) := by decide +kernel
theorem dX12_ask_7 : decode cX12_ask 7 = .ok (.iconst 4, 1) := by decide +kernel
theorem dX12_ask_8 : decode cX12_ask 8 = .ok (.invokevirtual 71, 3) := by decide +kernel
theorem dX12_ask_11 : decode cX12_ask 11 = .ok (.ifCond .eq 12, 3) := by decide +kernel
theorem dX12_ask_14 : decode cX12_ask 14 = .ok (.iload_n 2, 1) := by decide +kernel
theorem dX12_ask_15 : decode cX12_ask 15 = .ok (.iload_n 1, 1) := by decide +kernel
theorem dX12_ask_16 : decode cX12_ask 16 = .ok (.if_icmp .eq 7, 3) := by decide +kernel
theorem dX12_ask_19 : decode cX12_ask 19 = .ok (.iconst 1, 1) := by decide +kernel
theorem dX12_ask_20 : decode cX12_ask 20 = .ok (.goto 4, 3) := by decide +kernel
theorem dX12_ask_23 : decode cX12_ask 23 = .ok (.iconst 0, 1) := by decide +kernel
theorem dX12_ask_24 : decode cX12_ask 24 = .ok (.istore 6, 2) := by decide +kernel
theorem dX12_ask_26 : decode cX12_ask 26 = .ok (.aload_n 0, 1) := by decide +kernel
theorem dX12_ask_27 : decode cX12_ask 27 = .ok (.iload_n 1, 1) := by decide +kernel
theorem dX12_ask_28 : decode cX12_ask 28 = .ok (.iconst 4, 1) := by decide +kernel
theorem dX12_ask_29 : decode cX12_ask 29 = .ok (.invokevirtual 71, 3) := by decide +kernel
theorem dX12_ask_32 : decode cX12_ask 32 = .ok (.ifCond .eq 54, 3) := by decide +kernel
theorem dX12_ask_35 : decode cX12_ask 35 = .ok (.iload 6, 2) := by decide +kernel
theorem dX12_ask_37 : decode cX12_ask 37 = .ok (.ifCond .eq 49, 3) := by decide +kernel
theorem dX12_ask_40 : decode cX12_ask 40 = .ok (.aload_n 0, 1) := by decide +kernel
theorem dX12_ask_41 : decode cX12_ask 41 = .ok (.iload_n 3, 1) := by decide +kernel
theorem dX12_ask_42 : decode cX12_ask 42 = .ok (.iconst 3, 1) := by decide +kernel
theorem dX12_ask_43 : decode cX12_ask 43 = .ok (.invokevirtual 71, 3) := by decide +kernel
theorem dX12_ask_46 : decode cX12_ask 46 = .ok (.ifCond .eq 40, 3) := by decide +kernel
theorem dX12_ask_49 : decode cX12_ask 49 = .ok (.iload 4, 2) := by decide +kernel
theorem dX12_ask_51 : decode cX12_ask 51 = .ok (.bipush 10, 2) := by decide +kernel
theorem dX12_ask_53 : decode cX12_ask 53 = .ok (.sipush 309, 3) := by decide +kernel
theorem dX12_ask_56 : decode cX12_ask 56 = .ok (.invokestatic 58, 3) := by decide +kernel
theorem dX12_ask_59 : decode cX12_ask 59 = .ok (.ifCond .eq 27, 3) := by decide +kernel
theorem dX12_ask_62 : decode cX12_ask 62 = .ok (.iload 4, 2) := by decide +kernel
theorem dX12_ask_64 : decode cX12_ask 64 = .ok (.bipush 10, 2) := by decide +kernel
theorem dX12_ask_66 : decode cX12_ask 66 = .ok (.irem, 1) := by decide +kernel
theorem dX12_ask_67 : decode cX12_ask 67 = .ok (.iconst 1, 1) := by decide +kernel
theorem dX12_ask_68 : decode cX12_ask 68 = .ok (.iconst 5, 1) := by decide +kernel
theorem dX12_ask_69 : decode cX12_ask 69 = .ok (.invokestatic 58, 3) := by decide +kernel
theorem dX12_ask_72 : decode cX12_ask 72 = .ok (.ifCond .eq 14, 3) := by decide +kernel
theorem dX12_ask_75 : decode cX12_ask 75 = .ok (.iload 5, 2) := by decide +kernel
theorem dX12_ask_77 : decode cX12_ask 77 = .ok (.iconst 1, 1) := by decide +kernel
theorem dX12_ask_78 : decode cX12_ask 78 = .ok (.bipush 60, 2) := by decide +kernel
theorem dX12_ask_80 : decode cX12_ask 80 = .ok (.invokestatic 58, 3) := by decide +kernel
theorem dX12_ask_83 : decode cX12_ask 83 = .ok (.ifCond .ne 10, 3) := by decide +kernel
theorem dX12_ask_86 : decode cX12_ask 86 = .ok (.aload_n 0, 1) := by decide +kernel
theorem dX12_ask_87 : decode cX12_ask 87 = .ok (.ldc 57, 2) := by decide +kernel
theorem dX12_ask_89 : decode cX12_ask 89 = .ok (.invokevirtual 62, 3) := by decide +kernel
theorem dX12_ask_92 : decode cX12_ask 92 = .ok (.ireturn, 1) := by decide +kernel
theorem dX12_ask_93 : decode cX12_ask 93 = .ok (.aload_n 0, 1) := by decide +kernel
theorem dX12_ask_94 : decode cX12_ask 94 = .ok (.getfield 9, 3) := by decide +kernel
theorem dX12_ask_97 : decode cX12_ask 97 = .ok (.bipush 7, 2) := by decide +kernel
theorem dX12_ask_99 : decode cX12_ask 99 = .ok (.iaload, 1) := by decide +kernel
theorem dX12_ask_100 : decode cX12_ask 100 = .ok (.istore 7, 2) := by decide +kernel
theorem dX12_ask_102 : decode cX12_ask 102 = .ok (.iload 7, 2) := by decide +kernel
theorem dX12_ask_104 : decode cX12_ask 104 = .ok (.bipush 20, 2) := by decide +kernel
theorem dX12_ask_106 : decode cX12_ask 106 = .ok (.if_icmp .ne 10, 3) := by decide +kernel
theorem dX12_ask_109 : decode cX12_ask 109 = .ok (.aload_n 0, 1) := by decide +kernel
theorem dX12_ask_110 : decode cX12_ask 110 = .ok (.ldc 66, 2) := by decide +kernel
theorem dX12_ask_112 : decode cX12_ask 112 = .ok (.invokevirtual 62, 3) := by decide +kernel
theorem dX12_ask_115 : decode cX12_ask 115 = .ok (.ireturn, 1) := by decide +kernel
theorem dX12_ask_116 : decode cX12_ask 116 = .ok (.sipush 146, 3) := by decide +kernel
theorem dX12_ask_119 : decode cX12_ask 119 = .ok (.bipush 10, 2) := by decide +kernel
theorem dX12_ask_121 : decode cX12_ask 121 = .ok (.iload 7, 2) := by decide +kernel
theorem dX12_ask_123 : decode cX12_ask 123 = .ok (.imul, 1) := by decide +kernel
theorem dX12_ask_124 : decode cX12_ask 124 = .ok (.iadd, 1) := by decide +kernel
theorem dX12_ask_125 : decode cX12_ask 125 = .ok (.istore 8, 2) := by decide +kernel
theorem dX12_ask_127 : decode cX12_ask 127 = .ok (.aload_n 0, 1) := by decide +kernel
theorem dX12_ask_128 : decode cX12_ask 128 = .ok (.getfield 9, 3) := by decide +kernel
theorem dX12_ask_131 : decode cX12_ask 131 = .ok (.iload 8, 2) := by decide +kernel
theorem dX12_ask_133 : decode cX12_ask 133 = .ok (.iconst 0, 1) := by decide +kernel
theorem dX12_ask_134 : decode cX12_ask 134 = .ok (.iadd, 1) := by decide +kernel
theorem dX12_ask_135 : decode cX12_ask 135 = .ok (.iload_n 1, 1) := by decide +kernel
theorem dX12_ask_136 : decode cX12_ask 136 = .ok (.iastore, 1) := by decide +kernel
theorem dX12_ask_137 : decode cX12_ask 137 = .ok (.aload_n 0, 1) := by decide +kernel
theorem dX12_ask_138 : decode cX12_ask 138 = .ok (.getfield 9, 3) := by decide +kernel
theorem dX12_ask_141 : decode cX12_ask 141 = .ok (.iload 8, 2) := by decide +kernel
theorem dX12_ask_143 : decode cX12_ask 143 = .ok (.iconst 1, 1) := by decide +kernel
theorem dX12_ask_144 : decode cX12_ask 144 = .ok (.iadd, 1) := by decide +kernel
theorem dX12_ask_145 : decode cX12_ask 145 = .ok (.iload_n 2, 1) := by decide +kernel
theorem dX12_ask_146 : decode cX12_ask 146 = .ok (.iastore, 1) := by decide +kernel
theorem dX12_ask_147 : decode cX12_ask 147 = .ok (.aload_n 0, 1) := by decide +kernel
theorem dX12_ask_148 : decode cX12_ask 148 = .ok (.getfield 9, 3) := by decide +kernel
theorem dX12_ask_151 : decode cX12_ask 151 = .ok (.iload 8, 2) := by decide +kernel
theorem dX12_ask_153 : decode cX12_ask 153 = .ok (.iconst 2, 1) := by decide +kernel
theorem dX12_ask_154 : decode cX12_ask 154 = .ok (.iadd, 1) := by decide +kernel
theorem dX12_ask_155 : decode cX12_ask 155 = .ok (.iload_n 3, 1) := by decide +kernel
theorem dX12_ask_156 : decode cX12_ask 156 = .ok (.iastore, 1) := by decide +kernel
theorem dX12_ask_157 : decode cX12_ask 157 = .ok (.aload_n 0, 1) := by decide +kernel
theorem dX12_ask_158 : decode cX12_ask 158 = .ok (.getfield 9, 3) := by decide +kernel
theorem dX12_ask_161 : decode cX12_ask 161 = .ok (.iload 8, 2) := by decide +kernel
theorem dX12_ask_163 : decode cX12_ask 163 = .ok (.iconst 3, 1) := by decide +kernel
theorem dX12_ask_164 : decode cX12_ask 164 = .ok (.iadd, 1) := by decide +kernel
theorem dX12_ask_165 : decode cX12_ask 165 = .ok (.iload 4, 2) := by decide +kernel
theorem dX12_ask_167 : decode cX12_ask 167 = .ok (.bipush 10, 2) := by decide +kernel
theorem dX12_ask_169 : decode cX12_ask 169 = .ok (.irem, 1) := by decide +kernel
theorem dX12_ask_170 : decode cX12_ask 170 = .ok (.iastore, 1) := by decide +kernel
theorem dX12_ask_171 : decode cX12_ask 171 = .ok (.aload_n 0, 1) := by decide +kernel
theorem dX12_ask_172 : decode cX12_ask 172 = .ok (.getfield 9, 3) := by decide +kernel
theorem dX12_ask_175 : decode cX12_ask 175 = .ok (.iload 8, 2) := by decide +kernel
theorem dX12_ask_177 : decode cX12_ask 177 = .ok (.iconst 4, 1) := by decide +kernel
theorem dX12_ask_178 : decode cX12_ask 178 = .ok (.iadd, 1) := by decide +kernel
theorem dX12_ask_179 : decode cX12_ask 179 = .ok (.iload 4, 2) := by decide +kernel
theorem dX12_ask_181 : decode cX12_ask 181 = .ok (.bipush 10, 2) := by decide +kernel
theorem dX12_ask_183 : decode cX12_ask 183 = .ok (.idiv, 1) := by decide +kernel
theorem dX12_ask_184 : decode cX12_ask 184 = .ok (.iastore, 1) := by decide +kernel
theorem dX12_ask_185 : decode cX12_ask 185 = .ok (.aload_n 0, 1) := by decide +kernel
theorem dX12_ask_186 : decode cX12_ask 186 = .ok (.getfield 9, 3) := by decide +kernel
theorem dX12_ask_189 : decode cX12_ask 189 = .ok (.iload 8, 2) := by decide +kernel
theorem dX12_ask_191 : decode cX12_ask 191 = .ok (.iconst 5, 1) := by decide +kernel
theorem dX12_ask_192 : decode cX12_ask 192 = .ok (.iadd, 1) := by decide +kernel
theorem dX12_ask_193 : decode cX12_ask 193 = .ok (.iload 5, 2) := by decide +kernel
theorem dX12_ask_195 : decode cX12_ask 195 = .ok (.iastore, 1) := by decide +kernel
theorem dX12_ask_196 : decode cX12_ask 196 = .ok (.aload_n 0, 1) := by decide +kernel
theorem dX12_ask_197 : decode cX12_ask 197 = .ok (.getfield 9, 3) := by decide +kernel
theorem dX12_ask_200 : decode cX12_ask 200 = .ok (.iload 8, 2) := by decide +kernel
theorem dX12_ask_202 : decode cX12_ask 202 = .ok (.bipush 6, 2) := by decide +kernel
theorem dX12_ask_204 : decode cX12_ask 204 = .ok (.iadd, 1) := by decide +kernel
theorem dX12_ask_205 : decode cX12_ask 205 = .ok (.iconst 0, 1) := by decide +kernel
theorem dX12_ask_206 : decode cX12_ask 206 = .ok (.iastore, 1) := by decide +kernel
theorem dX12_ask_207 : decode cX12_ask 207 = .ok (.aload_n 0, 1) := by decide +kernel
theorem dX12_ask_208 : decode cX12_ask 208 = .ok (.getfield 9, 3) := by decide +kernel
theorem dX12_ask_211 : decode cX12_ask 211 = .ok (.iload 8, 2) := by decide +kernel
theorem dX12_ask_213 : decode cX12_ask 213 = .ok (.bipush 7, 2) := by decide +kernel
theorem dX12_ask_215 : decode cX12_ask 215 = .ok (.iadd, 1) := by decide +kernel
theorem dX12_ask_216 : decode cX12_ask 216 = .ok (.iconst (-1), 1) := by decide +kernel
theorem dX12_ask_217 : decode cX12_ask 217 = .ok (.iastore, 1) := by decide +kernel
theorem dX12_ask_218 : decode cX12_ask 218 = .ok (.aload_n 0, 1) := by decide +kernel
theorem dX12_ask_219 : decode cX12_ask 219 = .ok (.getfield 9, 3) := by decide +kernel
theorem dX12_ask_222 : decode cX12_ask 222 = .ok (.iload 8, 2) := by decide +kernel
theorem dX12_ask_224 : decode cX12_ask 224 = .ok (.bipush 8, 2) := by decide +kernel
theorem dX12_ask_226 : decode cX12_ask 226 = .ok (.iadd, 1) := by decide +kernel
theorem dX12_ask_227 : decode cX12_ask 227 = .ok (.iconst (-1), 1) := by decide +kernel
theorem dX12_ask_228 : decode cX12_ask 228 = .ok (.iastore, 1) := by decide +kernel
theorem dX12_ask_229 : decode cX12_ask 229 = .ok (.aload_n 0, 1) := by decide +kernel
theorem dX12_ask_230 : decode cX12_ask 230 = .ok (.getfield 9, 3) := by decide +kernel
theorem dX12_ask_233 : decode cX12_ask 233 = .ok (.iload 8, 2) := by decide +kernel
theorem dX12_ask_235 : decode cX12_ask 235 = .ok (.bipush 9, 2) := by decide +kernel
theorem dX12_ask_237 : decode cX12_ask 237 = .ok (.iadd, 1) := by decide +kernel
theorem dX12_ask_238 : decode cX12_ask 238 = .ok (.iconst (-1), 1) := by decide +kernel
theorem dX12_ask_239 : decode cX12_ask 239 = .ok (.iastore, 1) := by decide +kernel
theorem dX12_ask_240 : decode cX12_ask 240 = .ok (.aload_n 0, 1) := by decide +kernel
theorem dX12_ask_241 : decode cX12_ask 241 = .ok (.getfield 9, 3) := by decide +kernel
theorem dX12_ask_244 : decode cX12_ask 244 = .ok (.bipush 7, 2) := by decide +kernel
theorem dX12_ask_246 : decode cX12_ask 246 = .ok (.dup2, 1) := by decide +kernel
theorem dX12_ask_247 : decode cX12_ask 247 = .ok (.iaload, 1) := by decide +kernel
theorem dX12_ask_248 : decode cX12_ask 248 = .ok (.iconst 1, 1) := by decide +kernel
theorem dX12_ask_249 : decode cX12_ask 249 = .ok (.iadd, 1) := by decide +kernel
theorem dX12_ask_250 : decode cX12_ask 250 = .ok (.iastore, 1) := by decide +kernel
theorem dX12_ask_251 : decode cX12_ask 251 = .ok (.iload 7, 2) := by decide +kernel
theorem dX12_ask_253 : decode cX12_ask 253 = .ok (.ireturn, 1) := by decide +kernel
theorem dX12_askIs_0 : decode cX12_askIs 0 = .ok (.aload_n 0, 1) := by decide +kernel
theorem dX12_askIs_1 : decode cX12_askIs 1 = .ok (.iload_n 1, 1) := by decide +kernel
theorem dX12_askIs_2 : decode cX12_askIs 2 = .ok (.bipush 7, 2) := by decide +kernel
theorem dX12_askIs_4 : decode cX12_askIs 4 = .ok (.invokevirtual 71, 3) := by decide +kernel
theorem dX12_askIs_7 : decode cX12_askIs 7 = .ok (.ifCond .eq 22, 3) := by decide +kernel
theorem dX12_askIs_10 : decode cX12_askIs 10 = .ok (.iload_n 2, 1) := by decide +kernel
theorem dX12_askIs_11 : decode cX12_askIs 11 = .ok (.iconst 0, 1) := by decide +kernel
theorem dX12_askIs_12 : decode cX12_askIs 12 = .ok (.bipush 9, 2) := by decide +kernel
theorem dX12_askIs_14 : decode cX12_askIs 14 = .ok (.invokestatic 58, 3) := by decide +kernel
theorem dX12_askIs_17 : decode cX12_askIs 17 = .ok (.ifCond .eq 12, 3) := by decide +kernel
theorem dX12_askIs_20 : decode cX12_askIs 20 = .ok (.aload_n 0, 1) := by decide +kernel
theorem dX12_askIs_21 : decode cX12_askIs 21 = .ok (.iload_n 1, 1) := by decide +kernel
theorem dX12_askIs_22 : decode cX12_askIs 22 = .ok (.iload_n 2, 1) := by decide +kernel
theorem dX12_askIs_23 : decode cX12_askIs 23 = .ok (.invokevirtual 67, 3) := by decide +kernel
theorem dX12_askIs_26 : decode cX12_askIs 26 = .ok (.goto 9, 3) := by decide +kernel
theorem dX12_askIs_29 : decode cX12_askIs 29 = .ok (.aload_n 0, 1) := by decide +kernel
theorem dX12_askIs_30 : decode cX12_askIs 30 = .ok (.ldc 57, 2) := by decide +kernel
theorem dX12_askIs_32 : decode cX12_askIs 32 = .ok (.invokevirtual 62, 3) := by decide +kernel
theorem dX12_askIs_35 : decode cX12_askIs 35 = .ok (.ireturn, 1) := by decide +kernel
theorem dX12_above_0 : decode cX12_above 0 = .ok (.iload_n 0, 1) := by decide +kernel
theorem dX12_above_1 : decode cX12_above 1 = .ok (.iconst 3, 1) := by decide +kernel
theorem dX12_above_2 : decode cX12_above 2 = .ok (.if_icmp .ne 7, 3) := by decide +kernel
theorem dX12_above_5 : decode cX12_above 5 = .ok (.iconst 1, 1) := by decide +kernel
theorem dX12_above_6 : decode cX12_above 6 = .ok (.goto 26, 3) := by decide +kernel
theorem dX12_above_9 : decode cX12_above 9 = .ok (.iload_n 0, 1) := by decide +kernel
theorem dX12_above_10 : decode cX12_above 10 = .ok (.iconst 4, 1) := by decide +kernel
theorem dX12_above_11 : decode cX12_above 11 = .ok (.if_icmp .eq 8, 3) := by decide +kernel
theorem dX12_above_14 : decode cX12_above 14 = .ok (.iload_n 0, 1) := by decide +kernel
theorem dX12_above_15 : decode cX12_above 15 = .ok (.iconst 5, 1) := by decide +kernel
theorem dX12_above_16 : decode cX12_above 16 = .ok (.if_icmp .ne 7, 3) := by decide +kernel
theorem dX12_above_19 : decode cX12_above 19 = .ok (.iconst 2, 1) := by decide +kernel
theorem dX12_above_20 : decode cX12_above 20 = .ok (.goto 12, 3) := by decide +kernel
theorem dX12_above_23 : decode cX12_above 23 = .ok (.iload_n 0, 1) := by decide +kernel
theorem dX12_above_24 : decode cX12_above 24 = .ok (.ifCond .ne 7, 3) := by decide +kernel
theorem dX12_above_27 : decode cX12_above 27 = .ok (.iconst (-1), 1) := by decide +kernel
theorem dX12_above_28 : decode cX12_above 28 = .ok (.goto 4, 3) := by decide +kernel
theorem dX12_above_31 : decode cX12_above 31 = .ok (.iconst 0, 1) := by decide +kernel
theorem dX12_above_32 : decode cX12_above 32 = .ok (.ireturn, 1) := by decide +kernel
theorem dX12_isUnder_0 : decode cX12_isUnder 0 = .ok (.iload_n 0, 1) := by decide +kernel
theorem dX12_isUnder_1 : decode cX12_isUnder 1 = .ok (.istore_n 2, 1) := by decide +kernel
theorem dX12_isUnder_2 : decode cX12_isUnder 2 = .ok (.iload_n 2, 1) := by decide +kernel
theorem dX12_isUnder_3 : decode cX12_isUnder 3 = .ok (.ifCond .lt 16, 3) := by decide +kernel
theorem dX12_isUnder_6 : decode cX12_isUnder 6 = .ok (.iload_n 2, 1) := by decide +kernel
theorem dX12_isUnder_7 : decode cX12_isUnder 7 = .ok (.iload_n 1, 1) := by decide +kernel
theorem dX12_isUnder_8 : decode cX12_isUnder 8 = .ok (.if_icmp .eq 11, 3) := by decide +kernel
theorem dX12_isUnder_11 : decode cX12_isUnder 11 = .ok (.iload_n 2, 1) := by decide +kernel
theorem dX12_isUnder_12 : decode cX12_isUnder 12 = .ok (.invokestatic 120, 3) := by decide +kernel
theorem dX12_isUnder_15 : decode cX12_isUnder 15 = .ok (.istore_n 2, 1) := by decide +kernel
theorem dX12_isUnder_16 : decode cX12_isUnder 16 = .ok (.goto (-14), 3) := by decide +kernel
theorem dX12_isUnder_19 : decode cX12_isUnder 19 = .ok (.iload_n 2, 1) := by decide +kernel
theorem dX12_isUnder_20 : decode cX12_isUnder 20 = .ok (.ifCond .lt 7, 3) := by decide +kernel
theorem dX12_isUnder_23 : decode cX12_isUnder 23 = .ok (.iconst 1, 1) := by decide +kernel
theorem dX12_isUnder_24 : decode cX12_isUnder 24 = .ok (.goto 4, 3) := by decide +kernel
theorem dX12_isUnder_27 : decode cX12_isUnder 27 = .ok (.iconst 0, 1) := by decide +kernel
theorem dX12_isUnder_28 : decode cX12_isUnder 28 = .ok (.ireturn, 1) := by decide +kernel
theorem dX12_as_0 : decode cX12_as 0 = .ok (.aload_n 0, 1) := by decide +kernel
theorem dX12_as_1 : decode cX12_as 1 = .ok (.iload_n 1, 1) := by decide +kernel
theorem dX12_as_2 : decode cX12_as 2 = .ok (.bipush 7, 2) := by decide +kernel
theorem dX12_as_4 : decode cX12_as 4 = .ok (.invokevirtual 71, 3) := by decide +kernel
theorem dX12_as_7 : decode cX12_as 7 = .ok (.ifCond .eq 10, 3) := by decide +kernel
theorem dX12_as_10 : decode cX12_as 10 = .ok (.iload_n 2, 1) := by decide +kernel
theorem dX12_as_11 : decode cX12_as 11 = .ok (.invokestatic 117, 3) := by decide +kernel
theorem dX12_as_14 : decode cX12_as 14 = .ok (.ifCond .ne 10, 3) := by decide +kernel
theorem dX12_as_17 : decode cX12_as 17 = .ok (.aload_n 0, 1) := by decide +kernel
theorem dX12_as_18 : decode cX12_as 18 = .ok (.ldc 57, 2) := by decide +kernel
theorem dX12_as_20 : decode cX12_as 20 = .ok (.invokevirtual 62, 3) := by decide +kernel
theorem dX12_as_23 : decode cX12_as 23 = .ok (.ireturn, 1) := by decide +kernel
theorem dX12_as_24 : decode cX12_as 24 = .ok (.aload_n 0, 1) := by decide +kernel
theorem dX12_as_25 : decode cX12_as 25 = .ok (.iload_n 1, 1) := by decide +kernel
theorem dX12_as_26 : decode cX12_as 26 = .ok (.iconst 3, 1) := by decide +kernel
theorem dX12_as_27 : decode cX12_as 27 = .ok (.invokevirtual 67, 3) := by decide +kernel
theorem dX12_as_30 : decode cX12_as 30 = .ok (.iload_n 2, 1) := by decide +kernel
theorem dX12_as_31 : decode cX12_as 31 = .ok (.invokestatic 123, 3) := by decide +kernel
theorem dX12_as_34 : decode cX12_as 34 = .ok (.ifCond .eq 7, 3) := by decide +kernel
theorem dX12_as_37 : decode cX12_as 37 = .ok (.iload_n 1, 1) := by decide +kernel
theorem dX12_as_38 : decode cX12_as 38 = .ok (.goto 9, 3) := by decide +kernel
theorem dX12_as_41 : decode cX12_as 41 = .ok (.aload_n 0, 1) := by decide +kernel
theorem dX12_as_42 : decode cX12_as 42 = .ok (.ldc 126, 2) := by decide +kernel
theorem dX12_as_44 : decode cX12_as 44 = .ok (.invokevirtual 62, 3) := by decide +kernel
theorem dX12_as_47 : decode cX12_as 47 = .ok (.ireturn, 1) := by decide +kernel
theorem dX12_back_0 : decode cX12_back 0 = .ok (.aload_n 0, 1) := by decide +kernel
theorem dX12_back_1 : decode cX12_back 1 = .ok (.iload_n 1, 1) := by decide +kernel
theorem dX12_back_2 : decode cX12_back 2 = .ok (.bipush 7, 2) := by decide +kernel
theorem dX12_back_4 : decode cX12_back 4 = .ok (.invokevirtual 71, 3) := by decide +kernel
theorem dX12_back_7 : decode cX12_back 7 = .ok (.ifCond .ne 10, 3) := by decide +kernel
theorem dX12_back_10 : decode cX12_back 10 = .ok (.aload_n 0, 1) := by decide +kernel
theorem dX12_back_11 : decode cX12_back 11 = .ok (.ldc 57, 2) := by decide +kernel
theorem dX12_back_13 : decode cX12_back 13 = .ok (.invokevirtual 62, 3) := by decide +kernel
theorem dX12_back_16 : decode cX12_back 16 = .ok (.ireturn, 1) := by decide +kernel
theorem dX12_back_17 : decode cX12_back 17 = .ok (.aload_n 0, 1) := by decide +kernel
theorem dX12_back_18 : decode cX12_back 18 = .ok (.iload_n 1, 1) := by decide +kernel
theorem dX12_back_19 : decode cX12_back 19 = .ok (.bipush 6, 2) := by decide +kernel
theorem dX12_back_21 : decode cX12_back 21 = .ok (.invokevirtual 67, 3) := by decide +kernel
theorem dX12_back_24 : decode cX12_back 24 = .ok (.ifCond .eq 10, 3) := by decide +kernel
theorem dX12_back_27 : decode cX12_back 27 = .ok (.aload_n 0, 1) := by decide +kernel
theorem dX12_back_28 : decode cX12_back 28 = .ok (.ldc 95, 2) := by decide +kernel
theorem dX12_back_30 : decode cX12_back 30 = .ok (.invokevirtual 62, 3) := by decide +kernel
theorem dX12_back_33 : decode cX12_back 33 = .ok (.ireturn, 1) := by decide +kernel
theorem dX12_back_34 : decode cX12_back 34 = .ok (.aload_n 0, 1) := by decide +kernel
theorem dX12_back_35 : decode cX12_back 35 = .ok (.getfield 9, 3) := by decide +kernel
theorem dX12_back_38 : decode cX12_back 38 = .ok (.sipush 146, 3) := by decide +kernel
theorem dX12_back_41 : decode cX12_back 41 = .ok (.bipush 10, 2) := by decide +kernel
theorem dX12_back_43 : decode cX12_back 43 = .ok (.iload_n 1, 1) := by decide +kernel
theorem dX12_back_44 : decode cX12_back 44 = .ok (.imul, 1) := by decide +kernel
theorem dX12_back_45 : decode cX12_back 45 = .ok (.iadd, 1) := by decide +kernel
theorem dX12_back_46 : decode cX12_back 46 = .ok (.bipush 6, 2) := by decide +kernel
theorem dX12_back_48 : decode cX12_back 48 = .ok (.iadd, 1) := by decide +kernel
theorem dX12_back_49 : decode cX12_back 49 = .ok (.iconst 3, 1) := by decide +kernel
theorem dX12_back_50 : decode cX12_back 50 = .ok (.iastore, 1) := by decide +kernel
theorem dX12_back_51 : decode cX12_back 51 = .ok (.iconst 1, 1) := by decide +kernel
theorem dX12_back_52 : decode cX12_back 52 = .ok (.ireturn, 1) := by decide +kernel
theorem dX12_isClear_0 : decode cX12_isClear 0 = .ok (.iconst 1, 1) := by decide +kernel
theorem dX12_isClear_1 : decode cX12_isClear 1 = .ok (.istore_n 3, 1) := by decide +kernel
theorem dX12_isClear_2 : decode cX12_isClear 2 = .ok (.iconst 0, 1) := by decide +kernel
theorem dX12_isClear_3 : decode cX12_isClear 3 = .ok (.istore 4, 2) := by decide +kernel
theorem dX12_isClear_5 : decode cX12_isClear 5 = .ok (.iload 4, 2) := by decide +kernel
theorem dX12_isClear_7 : decode cX12_isClear 7 = .ok (.bipush 6, 2) := by decide +kernel
theorem dX12_isClear_9 : decode cX12_isClear 9 = .ok (.if_icmp .ge 55, 3) := by decide +kernel
theorem dX12_isClear_12 : decode cX12_isClear 12 = .ok (.iload_n 3, 1) := by decide +kernel
theorem dX12_isClear_13 : decode cX12_isClear 13 = .ok (.ifCond .eq 43, 3) := by decide +kernel
theorem dX12_isClear_16 : decode cX12_isClear 16 = .ok (.aload_n 0, 1) := by decide +kernel
theorem dX12_isClear_17 : decode cX12_isClear 17 = .ok (.getfield 9, 3) := by decide +kernel
theorem dX12_isClear_20 : decode cX12_isClear 20 = .ok (.bipush 10, 2) := by decide +kernel
theorem dX12_isClear_22 : decode cX12_isClear 22 = .ok (.iload_n 1, 1) := by decide +kernel
theorem dX12_isClear_23 : decode cX12_isClear 23 = .ok (.iadd, 1) := by decide +kernel
theorem dX12_isClear_24 : decode cX12_isClear 24 = .ok (.iaload, 1) := by decide +kernel
theorem dX12_isClear_25 : decode cX12_isClear 25 = .ok (.iload 4, 2) := by decide +kernel
theorem dX12_isClear_27 : decode cX12_isClear 27 = .ok (.invokestatic 127, 3) := by decide +kernel
theorem dX12_isClear_30 : decode cX12_isClear 30 = .ok (.ifCond .eq 22, 3) := by decide +kernel
theorem dX12_isClear_33 : decode cX12_isClear 33 = .ok (.aload_n 0, 1) := by decide +kernel
theorem dX12_isClear_34 : decode cX12_isClear 34 = .ok (.getfield 9, 3) := by decide +kernel
theorem dX12_isClear_37 : decode cX12_isClear 37 = .ok (.bipush 20, 2) := by decide +kernel
theorem dX12_isClear_39 : decode cX12_isClear 39 = .ok (.iload 4, 2) := by decide +kernel
theorem dX12_isClear_41 : decode cX12_isClear 41 = .ok (.iadd, 1) := by decide +kernel
theorem dX12_isClear_42 : decode cX12_isClear 42 = .ok (.iaload, 1) := by decide +kernel
theorem dX12_isClear_43 : decode cX12_isClear 43 = .ok (.aload_n 0, 1) := by decide +kernel
theorem dX12_isClear_44 : decode cX12_isClear 44 = .ok (.getfield 9, 3) := by decide +kernel
theorem dX12_isClear_47 : decode cX12_isClear 47 = .ok (.iconst 0, 1) := by decide +kernel
theorem dX12_isClear_48 : decode cX12_isClear 48 = .ok (.iaload, 1) := by decide +kernel
theorem dX12_isClear_49 : decode cX12_isClear 49 = .ok (.if_icmp .gt 7, 3) := by decide +kernel
theorem dX12_isClear_52 : decode cX12_isClear 52 = .ok (.iconst 1, 1) := by decide +kernel
theorem dX12_isClear_53 : decode cX12_isClear 53 = .ok (.goto 4, 3) := by decide +kernel
theorem dX12_isClear_56 : decode cX12_isClear 56 = .ok (.iconst 0, 1) := by decide +kernel
theorem dX12_isClear_57 : decode cX12_isClear 57 = .ok (.istore_n 3, 1) := by decide +kernel
theorem dX12_isClear_58 : decode cX12_isClear 58 = .ok (.iinc 4 1, 3) := by decide +kernel
theorem dX12_isClear_61 : decode cX12_isClear 61 = .ok (.goto (-56), 3) := by decide +kernel
theorem dX12_isClear_64 : decode cX12_isClear 64 = .ok (.iload_n 3, 1) := by decide +kernel
theorem dX12_isClear_65 : decode cX12_isClear 65 = .ok (.ireturn, 1) := by decide +kernel
theorem dX12_moves_0 : decode cX12_moves 0 = .ok (.aload_n 0, 1) := by decide +kernel
theorem dX12_moves_1 : decode cX12_moves 1 = .ok (.getfield 9, 3) := by decide +kernel
theorem dX12_moves_4 : decode cX12_moves 4 = .ok (.bipush 20, 2) := by decide +kernel
theorem dX12_moves_6 : decode cX12_moves 6 = .ok (.iload_n 1, 1) := by decide +kernel
theorem dX12_moves_7 : decode cX12_moves 7 = .ok (.iadd, 1) := by decide +kernel
theorem dX12_moves_8 : decode cX12_moves 8 = .ok (.aload_n 0, 1) := by decide +kernel
theorem dX12_moves_9 : decode cX12_moves 9 = .ok (.getfield 9, 3) := by decide +kernel
theorem dX12_moves_12 : decode cX12_moves 12 = .ok (.iconst 0, 1) := by decide +kernel
theorem dX12_moves_13 : decode cX12_moves 13 = .ok (.iaload, 1) := by decide +kernel
theorem dX12_moves_14 : decode cX12_moves 14 = .ok (.iload_n 2, 1) := by decide +kernel
theorem dX12_moves_15 : decode cX12_moves 15 = .ok (.iadd, 1) := by decide +kernel
theorem dX12_moves_16 : decode cX12_moves 16 = .ok (.iastore, 1) := by decide +kernel
theorem dX12_moves_17 : decode cX12_moves 17 = .ok (.return_, 1) := by decide +kernel
theorem dX12_laneOf_0 : decode cX12_laneOf 0 = .ok (.aload_n 0, 1) := by decide +kernel
theorem dX12_laneOf_1 : decode cX12_laneOf 1 = .ok (.getfield 9, 3) := by decide +kernel
theorem dX12_laneOf_4 : decode cX12_laneOf 4 = .ok (.bipush 16, 2) := by decide +kernel
theorem dX12_laneOf_6 : decode cX12_laneOf 6 = .ok (.aload_n 0, 1) := by decide +kernel
theorem dX12_laneOf_7 : decode cX12_laneOf 7 = .ok (.iload_n 1, 1) := by decide +kernel
theorem dX12_laneOf_8 : decode cX12_laneOf 8 = .ok (.iconst 3, 1) := by decide +kernel
theorem dX12_laneOf_9 : decode cX12_laneOf 9 = .ok (.invokevirtual 67, 3) := by decide +kernel
theorem dX12_laneOf_12 : decode cX12_laneOf 12 = .ok (.iconst 1, 1) := by decide +kernel
theorem dX12_laneOf_13 : decode cX12_laneOf 13 = .ok (.invokestatic 123, 3) := by decide +kernel
theorem dX12_laneOf_16 : decode cX12_laneOf 16 = .ok (.ifCond .eq 7, 3) := by decide +kernel
theorem dX12_laneOf_19 : decode cX12_laneOf 19 = .ok (.iconst 0, 1) := by decide +kernel
theorem dX12_laneOf_20 : decode cX12_laneOf 20 = .ok (.goto 4, 3) := by decide +kernel
theorem dX12_laneOf_23 : decode cX12_laneOf 23 = .ok (.iconst 1, 1) := by decide +kernel
theorem dX12_laneOf_24 : decode cX12_laneOf 24 = .ok (.iadd, 1) := by decide +kernel
theorem dX12_laneOf_25 : decode cX12_laneOf 25 = .ok (.iaload, 1) := by decide +kernel
theorem dX12_laneOf_26 : decode cX12_laneOf 26 = .ok (.ireturn, 1) := by decide +kernel
theorem dX12_spanOfAsk_0 : decode cX12_spanOfAsk 0 = .ok (.aload_n 0, 1) := by decide +kernel
theorem dX12_spanOfAsk_1 : decode cX12_spanOfAsk 1 = .ok (.iload_n 1, 1) := by decide +kernel
theorem dX12_spanOfAsk_2 : decode cX12_spanOfAsk 2 = .ok (.iconst 3, 1) := by decide +kernel
theorem dX12_spanOfAsk_3 : decode cX12_spanOfAsk 3 = .ok (.invokevirtual 67, 3) := by decide +kernel
theorem dX12_spanOfAsk_6 : decode cX12_spanOfAsk 6 = .ok (.aload_n 0, 1) := by decide +kernel
theorem dX12_spanOfAsk_7 : decode cX12_spanOfAsk 7 = .ok (.iload_n 1, 1) := by decide +kernel
theorem dX12_spanOfAsk_8 : decode cX12_spanOfAsk 8 = .ok (.iconst 4, 1) := by decide +kernel
theorem dX12_spanOfAsk_9 : decode cX12_spanOfAsk 9 = .ok (.invokevirtual 67, 3) := by decide +kernel
theorem dX12_spanOfAsk_12 : decode cX12_spanOfAsk 12 = .ok (.invokestatic 109, 3) := by decide +kernel
theorem dX12_spanOfAsk_15 : decode cX12_spanOfAsk 15 = .ok (.ireturn, 1) := by decide +kernel
theorem dX12_hasPapers_0 : decode cX12_hasPapers 0 = .ok (.iload_n 1, 1) := by decide +kernel
theorem dX12_hasPapers_1 : decode cX12_hasPapers 1 = .ok (.ifCond .lt 20, 3) := by decide +kernel
theorem dX12_hasPapers_4 : decode cX12_hasPapers 4 = .ok (.aload_n 0, 1) := by decide +kernel
theorem dX12_hasPapers_5 : decode cX12_hasPapers 5 = .ok (.iload_n 1, 1) := by decide +kernel
theorem dX12_hasPapers_6 : decode cX12_hasPapers 6 = .ok (.iconst 1, 1) := by decide +kernel
theorem dX12_hasPapers_7 : decode cX12_hasPapers 7 = .ok (.invokevirtual 82, 3) := by decide +kernel
theorem dX12_hasPapers_10 : decode cX12_hasPapers 10 = .ok (.iload_n 2, 1) := by decide +kernel
theorem dX12_hasPapers_11 : decode cX12_hasPapers 11 = .ok (.invokestatic 127, 3) := by decide +kernel
theorem dX12_hasPapers_14 : decode cX12_hasPapers 14 = .ok (.ifCond .eq 7, 3) := by decide +kernel
theorem dX12_hasPapers_17 : decode cX12_hasPapers 17 = .ok (.iconst 1, 1) := by decide +kernel
theorem dX12_hasPapers_18 : decode cX12_hasPapers 18 = .ok (.goto 4, 3) := by decide +kernel
theorem dX12_hasPapers_21 : decode cX12_hasPapers 21 = .ok (.iconst 0, 1) := by decide +kernel
theorem dX12_hasPapers_22 : decode cX12_hasPapers 22 = .ok (.ireturn, 1) := by decide +kernel
theorem dX12_winchFor_0 : decode cX12_winchFor 0 = .ok (.iconst 0, 1) := by decide +kernel
theorem dX12_winchFor_1 : decode cX12_winchFor 1 = .ok (.istore_n 2, 1) := by decide +kernel
theorem dX12_winchFor_2 : decode cX12_winchFor 2 = .ok (.iload_n 2, 1) := by decide +kernel
theorem dX12_winchFor_3 : decode cX12_winchFor 3 = .ok (.aload_n 0, 1) := by decide +kernel
theorem dX12_winchFor_4 : decode cX12_winchFor 4 = .ok (.getfield 9, 3) := by decide +kernel
theorem dX12_winchFor_7 : decode cX12_winchFor 7 = .ok (.iconst 5, 1) := by decide +kernel
theorem dX12_winchFor_8 : decode cX12_winchFor 8 = .ok (.iaload, 1) := by decide +kernel
theorem dX12_winchFor_9 : decode cX12_winchFor 9 = .ok (.if_icmp .ge 78, 3) := by decide +kernel
theorem dX12_winchFor_12 : decode cX12_winchFor 12 = .ok (.aload_n 0, 1) := by decide +kernel
theorem dX12_winchFor_13 : decode cX12_winchFor 13 = .ok (.getfield 9, 3) := by decide +kernel
theorem dX12_winchFor_16 : decode cX12_winchFor 16 = .ok (.iload_n 2, 1) := by decide +kernel
theorem dX12_winchFor_17 : decode cX12_winchFor 17 = .ok (.iconst 0, 1) := by decide +kernel
theorem dX12_winchFor_18 : decode cX12_winchFor 18 = .ok (.invokestatic 92, 3) := by decide +kernel
theorem dX12_winchFor_21 : decode cX12_winchFor 21 = .ok (.iaload, 1) := by decide +kernel
theorem dX12_winchFor_22 : decode cX12_winchFor 22 = .ok (.iconst 2, 1) := by decide +kernel
theorem dX12_winchFor_23 : decode cX12_winchFor 23 = .ok (.if_icmp .ne 7, 3) := by decide +kernel
theorem dX12_winchFor_26 : decode cX12_winchFor 26 = .ok (.iconst 1, 1) := by decide +kernel
theorem dX12_winchFor_27 : decode cX12_winchFor 27 = .ok (.goto 4, 3) := by decide +kernel
theorem dX12_winchFor_30 : decode cX12_winchFor 30 = .ok (.iconst 0, 1) := by decide +kernel
theorem dX12_winchFor_31 : decode cX12_winchFor 31 = .ok (.istore_n 3, 1) := by decide +kernel
theorem dX12_winchFor_32 : decode cX12_winchFor 32 = .ok (.aload_n 0, 1) := by decide +kernel
theorem dX12_winchFor_33 : decode cX12_winchFor 33 = .ok (.getfield 9, 3) := by decide +kernel
theorem dX12_winchFor_36 : decode cX12_winchFor 36 = .ok (.iload_n 2, 1) := by decide +kernel
theorem dX12_winchFor_37 : decode cX12_winchFor 37 = .ok (.iconst 1, 1) := by decide +kernel
theorem dX12_winchFor_38 : decode cX12_winchFor 38 = .ok (.invokestatic 92, 3) := by decide +kernel
theorem dX12_winchFor_41 : decode cX12_winchFor 41 = .ok (.iaload, 1) := by decide +kernel
theorem dX12_winchFor_42 : decode cX12_winchFor 42 = .ok (.iconst 2, 1) := by decide +kernel
theorem dX12_winchFor_43 : decode cX12_winchFor 43 = .ok (.if_icmp .ne 7, 3) := by decide +kernel
theorem dX12_winchFor_46 : decode cX12_winchFor 46 = .ok (.iconst 1, 1) := by decide +kernel
theorem dX12_winchFor_47 : decode cX12_winchFor 47 = .ok (.goto 4, 3) := by decide +kernel
theorem dX12_winchFor_50 : decode cX12_winchFor 50 = .ok (.iconst 0, 1) := by decide +kernel
theorem dX12_winchFor_51 : decode cX12_winchFor 51 = .ok (.istore 4, 2) := by decide +kernel
theorem dX12_winchFor_53 : decode cX12_winchFor 53 = .ok (.iload_n 1, 1) := by decide +kernel
theorem dX12_winchFor_54 : decode cX12_winchFor 54 = .ok (.iconst 3, 1) := by decide +kernel
theorem dX12_winchFor_55 : decode cX12_winchFor 55 = .ok (.if_icmp .ne 15, 3) := by decide +kernel
theorem dX12_winchFor_58 : decode cX12_winchFor 58 = .ok (.iload_n 3, 1) := by decide +kernel
theorem dX12_winchFor_59 : decode cX12_winchFor 59 = .ok (.ifCond .eq 22, 3) := by decide +kernel
theorem dX12_winchFor_62 : decode cX12_winchFor 62 = .ok (.iload 4, 2) := by decide +kernel
theorem dX12_winchFor_64 : decode cX12_winchFor 64 = .ok (.ifCond .eq 17, 3) := by decide +kernel
theorem dX12_winchFor_67 : decode cX12_winchFor 67 = .ok (.goto 12, 3) := by decide +kernel
theorem dX12_winchFor_70 : decode cX12_winchFor 70 = .ok (.iload_n 3, 1) := by decide +kernel
theorem dX12_winchFor_71 : decode cX12_winchFor 71 = .ok (.ifCond .ne 8, 3) := by decide +kernel
theorem dX12_winchFor_74 : decode cX12_winchFor 74 = .ok (.iload 4, 2) := by decide +kernel
theorem dX12_winchFor_76 : decode cX12_winchFor 76 = .ok (.ifCond .eq 5, 3) := by decide +kernel
theorem dX12_winchFor_79 : decode cX12_winchFor 79 = .ok (.iload_n 2, 1) := by decide +kernel
theorem dX12_winchFor_80 : decode cX12_winchFor 80 = .ok (.ireturn, 1) := by decide +kernel
theorem dX12_winchFor_81 : decode cX12_winchFor 81 = .ok (.iinc 2 1, 3) := by decide +kernel
theorem dX12_winchFor_84 : decode cX12_winchFor 84 = .ok (.goto (-82), 3) := by decide +kernel
theorem dX12_winchFor_87 : decode cX12_winchFor 87 = .ok (.iconst (-1), 1) := by decide +kernel
theorem dX12_winchFor_88 : decode cX12_winchFor 88 = .ok (.ireturn, 1) := by decide +kernel
theorem dX12_planeThere_0 : decode cX12_planeThere 0 = .ok (.iconst 0, 1) := by decide +kernel
theorem dX12_planeThere_1 : decode cX12_planeThere 1 = .ok (.istore_n 1, 1) := by decide +kernel
theorem dX12_planeThere_2 : decode cX12_planeThere 2 = .ok (.iload_n 1, 1) := by decide +kernel
theorem dX12_planeThere_3 : decode cX12_planeThere 3 = .ok (.aload_n 0, 1) := by decide +kernel
theorem dX12_planeThere_4 : decode cX12_planeThere 4 = .ok (.getfield 9, 3) := by decide +kernel
theorem dX12_planeThere_7 : decode cX12_planeThere 7 = .ok (.bipush 6, 2) := by decide +kernel
theorem dX12_planeThere_9 : decode cX12_planeThere 9 = .ok (.iaload, 1) := by decide +kernel
theorem dX12_planeThere_10 : decode cX12_planeThere 10 = .ok (.if_icmp .ge 23, 3) := by decide +kernel
theorem dX12_planeThere_13 : decode cX12_planeThere 13 = .ok (.aload_n 0, 1) := by decide +kernel
theorem dX12_planeThere_14 : decode cX12_planeThere 14 = .ok (.getfield 9, 3) := by decide +kernel
theorem dX12_planeThere_17 : decode cX12_planeThere 17 = .ok (.bipush 30, 2) := by decide +kernel
theorem dX12_planeThere_19 : decode cX12_planeThere 19 = .ok (.iload_n 1, 1) := by decide +kernel
theorem dX12_planeThere_20 : decode cX12_planeThere 20 = .ok (.iadd, 1) := by decide +kernel
theorem dX12_planeThere_21 : decode cX12_planeThere 21 = .ok (.iaload, 1) := by decide +kernel
theorem dX12_planeThere_22 : decode cX12_planeThere 22 = .ok (.ifCond .ge 5, 3) := by decide +kernel
theorem dX12_planeThere_25 : decode cX12_planeThere 25 = .ok (.iload_n 1, 1) := by decide +kernel
theorem dX12_planeThere_26 : decode cX12_planeThere 26 = .ok (.ireturn, 1) := by decide +kernel
theorem dX12_planeThere_27 : decode cX12_planeThere 27 = .ok (.iinc 1 1, 3) := by decide +kernel
theorem dX12_planeThere_30 : decode cX12_planeThere 30 = .ok (.goto (-28), 3) := by decide +kernel
theorem dX12_planeThere_33 : decode cX12_planeThere 33 = .ok (.iconst (-1), 1) := by decide +kernel
theorem dX12_planeThere_34 : decode cX12_planeThere 34 = .ok (.ireturn, 1) := by decide +kernel
theorem dX12_hasHelp_0 : decode cX12_hasHelp 0 = .ok (.iload_n 1, 1) := by decide +kernel
theorem dX12_hasHelp_1 : decode cX12_hasHelp 1 = .ok (.iconst 4, 1) := by decide +kernel
theorem dX12_hasHelp_2 : decode cX12_hasHelp 2 = .ok (.if_icmp .eq 29, 3) := by decide +kernel
theorem dX12_hasHelp_5 : decode cX12_hasHelp 5 = .ok (.iload_n 1, 1) := by decide +kernel
theorem dX12_hasHelp_6 : decode cX12_hasHelp 6 = .ok (.iconst 1, 1) := by decide +kernel
theorem dX12_hasHelp_7 : decode cX12_hasHelp 7 = .ok (.invokestatic 123, 3) := by decide +kernel
theorem dX12_hasHelp_10 : decode cX12_hasHelp 10 = .ok (.ifCond .eq 14, 3) := by decide +kernel
theorem dX12_hasHelp_13 : decode cX12_hasHelp 13 = .ok (.aload_n 0, 1) := by decide +kernel
theorem dX12_hasHelp_14 : decode cX12_hasHelp 14 = .ok (.iload_n 1, 1) := by decide +kernel
theorem dX12_hasHelp_15 : decode cX12_hasHelp 15 = .ok (.invokevirtual 130, 3) := by decide +kernel
theorem dX12_hasHelp_18 : decode cX12_hasHelp 18 = .ok (.ifCond .lt 17, 3) := by decide +kernel
theorem dX12_hasHelp_21 : decode cX12_hasHelp 21 = .ok (.goto 10, 3) := by decide +kernel
theorem dX12_hasHelp_24 : decode cX12_hasHelp 24 = .ok (.aload_n 0, 1) := by decide +kernel
theorem dX12_hasHelp_25 : decode cX12_hasHelp 25 = .ok (.invokevirtual 133, 3) := by decide +kernel
theorem dX12_hasHelp_28 : decode cX12_hasHelp 28 = .ok (.ifCond .lt 7, 3) := by decide +kernel
theorem dX12_hasHelp_31 : decode cX12_hasHelp 31 = .ok (.iconst 1, 1) := by decide +kernel
theorem dX12_hasHelp_32 : decode cX12_hasHelp 32 = .ok (.goto 4, 3) := by decide +kernel
theorem dX12_hasHelp_35 : decode cX12_hasHelp 35 = .ok (.iconst 0, 1) := by decide +kernel
theorem dX12_hasHelp_36 : decode cX12_hasHelp 36 = .ok (.ireturn, 1) := by decide +kernel
theorem dX12_whyNot_0 : decode cX12_whyNot 0 = .ok (.aload_n 0, 1) := by decide +kernel
theorem dX12_whyNot_1 : decode cX12_whyNot 1 = .ok (.iload_n 1, 1) := by decide +kernel
theorem dX12_whyNot_2 : decode cX12_whyNot 2 = .ok (.iconst 0, 1) := by decide +kernel
theorem dX12_whyNot_3 : decode cX12_whyNot 3 = .ok (.invokevirtual 67, 3) := by decide +kernel
theorem dX12_whyNot_6 : decode cX12_whyNot 6 = .ok (.istore_n 2, 1) := by decide +kernel
theorem dX12_whyNot_7 : decode cX12_whyNot 7 = .ok (.aload_n 0, 1) := by decide +kernel
theorem dX12_whyNot_8 : decode cX12_whyNot 8 = .ok (.iload_n 1, 1) := by decide +kernel
theorem dX12_whyNot_9 : decode cX12_whyNot 9 = .ok (.iconst 1, 1) := by decide +kernel
theorem dX12_whyNot_10 : decode cX12_whyNot 10 = .ok (.invokevirtual 67, 3) := by decide +kernel
theorem dX12_whyNot_13 : decode cX12_whyNot 13 = .ok (.istore_n 3, 1) := by decide +kernel
theorem dX12_whyNot_14 : decode cX12_whyNot 14 = .ok (.aload_n 0, 1) := by decide +kernel
theorem dX12_whyNot_15 : decode cX12_whyNot 15 = .ok (.iload_n 1, 1) := by decide +kernel
theorem dX12_whyNot_16 : decode cX12_whyNot 16 = .ok (.iconst 2, 1) := by decide +kernel
theorem dX12_whyNot_17 : decode cX12_whyNot 17 = .ok (.invokevirtual 67, 3) := by decide +kernel
theorem dX12_whyNot_20 : decode cX12_whyNot 20 = .ok (.istore 4, 2) := by decide +kernel
theorem dX12_whyNot_22 : decode cX12_whyNot 22 = .ok (.aload_n 0, 1) := by decide +kernel
theorem dX12_whyNot_23 : decode cX12_whyNot 23 = .ok (.iload_n 1, 1) := by decide +kernel
theorem dX12_whyNot_24 : decode cX12_whyNot 24 = .ok (.iconst 3, 1) := by decide +kernel
theorem dX12_whyNot_25 : decode cX12_whyNot 25 = .ok (.invokevirtual 67, 3) := by decide +kernel
theorem dX12_whyNot_28 : decode cX12_whyNot 28 = .ok (.istore 5, 2) := by decide +kernel
theorem dX12_whyNot_30 : decode cX12_whyNot 30 = .ok (.aload_n 0, 1) := by decide +kernel
theorem dX12_whyNot_31 : decode cX12_whyNot 31 = .ok (.iload_n 3, 1) := by decide +kernel
theorem dX12_whyNot_32 : decode cX12_whyNot 32 = .ok (.bipush 6, 2) := by decide +kernel
theorem dX12_whyNot_34 : decode cX12_whyNot 34 = .ok (.invokevirtual 137, 3) := by decide +kernel
theorem dX12_whyNot_37 : decode cX12_whyNot 37 = .ok (.istore 6, 2) := by decide +kernel
theorem dX12_whyNot_39 : decode cX12_whyNot 39 = .ok (.aload_n 0, 1) := by decide +kernel
theorem dX12_whyNot_40 : decode cX12_whyNot 40 = .ok (.iload_n 2, 1) := by decide +kernel
theorem dX12_whyNot_41 : decode cX12_whyNot 41 = .ok (.iconst 0, 1) := by decide +kernel
theorem dX12_whyNot_42 : decode cX12_whyNot 42 = .ok (.invokevirtual 82, 3) := by decide +kernel
theorem dX12_whyNot_45 : decode cX12_whyNot 45 = .ok (.iload_n 3, 1) := by decide +kernel
theorem dX12_whyNot_46 : decode cX12_whyNot 46 = .ok (.ifCond .ge 7, 3) := by decide +kernel
theorem dX12_whyNot_49 : decode cX12_whyNot 49 = .ok (.iconst 0, 1) := by decide +kernel
theorem dX12_whyNot_50 : decode cX12_whyNot 50 = .ok (.goto 9, 3) := by decide +kernel
theorem dX12_whyNot_53 : decode cX12_whyNot 53 = .ok (.aload_n 0, 1) := by decide +kernel
theorem dX12_whyNot_54 : decode cX12_whyNot 54 = .ok (.iload_n 3, 1) := by decide +kernel
theorem dX12_whyNot_55 : decode cX12_whyNot 55 = .ok (.iconst 0, 1) := by decide +kernel
theorem dX12_whyNot_56 : decode cX12_whyNot 56 = .ok (.invokevirtual 82, 3) := by decide +kernel
theorem dX12_whyNot_59 : decode cX12_whyNot 59 = .ok (.iadd, 1) := by decide +kernel
theorem dX12_whyNot_60 : decode cX12_whyNot 60 = .ok (.istore 7, 2) := by decide +kernel
theorem dX12_whyNot_62 : decode cX12_whyNot 62 = .ok (.aload_n 0, 1) := by decide +kernel
theorem dX12_whyNot_63 : decode cX12_whyNot 63 = .ok (.iload_n 2, 1) := by decide +kernel
theorem dX12_whyNot_64 : decode cX12_whyNot 64 = .ok (.iconst 2, 1) := by decide +kernel
theorem dX12_whyNot_65 : decode cX12_whyNot 65 = .ok (.invokevirtual 82, 3) := by decide +kernel
theorem dX12_whyNot_68 : decode cX12_whyNot 68 = .ok (.istore 8, 2) := by decide +kernel
theorem dX12_whyNot_70 : decode cX12_whyNot 70 = .ok (.aload_n 0, 1) := by decide +kernel
theorem dX12_whyNot_71 : decode cX12_whyNot 71 = .ok (.getfield 9, 3) := by decide +kernel
theorem dX12_whyNot_74 : decode cX12_whyNot 74 = .ok (.bipush 27, 2) := by decide +kernel
theorem dX12_whyNot_76 : decode cX12_whyNot 76 = .ok (.iaload, 1) := by decide +kernel
theorem dX12_whyNot_77 : decode cX12_whyNot 77 = .ok (.istore 9, 2) := by decide +kernel
theorem dX12_whyNot_79 : decode cX12_whyNot 79 = .ok (.aload_n 0, 1) := by decide +kernel
theorem dX12_whyNot_80 : decode cX12_whyNot 80 = .ok (.iload 4, 2) := by decide +kernel
theorem dX12_whyNot_82 : decode cX12_whyNot 82 = .ok (.invokevirtual 78, 3) := by decide +kernel
theorem dX12_whyNot_85 : decode cX12_whyNot 85 = .ok (.ifCond .ne 5, 3) := by decide +kernel
theorem dX12_whyNot_88 : decode cX12_whyNot 88 = .ok (.iconst 1, 1) := by decide +kernel
theorem dX12_whyNot_89 : decode cX12_whyNot 89 = .ok (.ireturn, 1) := by decide +kernel
theorem dX12_whyNot_90 : decode cX12_whyNot 90 = .ok (.iload_n 3, 1) := by decide +kernel
theorem dX12_whyNot_91 : decode cX12_whyNot 91 = .ok (.ifCond .lt 16, 3) := by decide +kernel
theorem dX12_whyNot_94 : decode cX12_whyNot 94 = .ok (.aload_n 0, 1) := by decide +kernel
theorem dX12_whyNot_95 : decode cX12_whyNot 95 = .ok (.iload 4, 2) := by decide +kernel
theorem dX12_whyNot_97 : decode cX12_whyNot 97 = .ok (.iconst 0, 1) := by decide +kernel
theorem dX12_whyNot_98 : decode cX12_whyNot 98 = .ok (.invokevirtual 75, 3) := by decide +kernel
theorem dX12_whyNot_101 : decode cX12_whyNot 101 = .ok (.iconst 1, 1) := by decide +kernel
theorem dX12_whyNot_102 : decode cX12_whyNot 102 = .ok (.if_icmp .ne 5, 3) := by decide +kernel
theorem dX12_whyNot_105 : decode cX12_whyNot 105 = .ok (.iconst 2, 1) := by decide +kernel
theorem dX12_whyNot_106 : decode cX12_whyNot 106 = .ok (.ireturn, 1) := by decide +kernel
theorem dX12_whyNot_107 : decode cX12_whyNot 107 = .ok (.iload 7, 2) := by decide +kernel
theorem dX12_whyNot_109 : decode cX12_whyNot 109 = .ok (.aload_n 0, 1) := by decide +kernel
theorem dX12_whyNot_110 : decode cX12_whyNot 110 = .ok (.iload 4, 2) := by decide +kernel
theorem dX12_whyNot_112 : decode cX12_whyNot 112 = .ok (.iconst 1, 1) := by decide +kernel
theorem dX12_whyNot_113 : decode cX12_whyNot 113 = .ok (.invokevirtual 75, 3) := by decide +kernel
theorem dX12_whyNot_116 : decode cX12_whyNot 116 = .ok (.if_icmp .le 5, 3) := by decide +kernel
theorem dX12_whyNot_119 : decode cX12_whyNot 119 = .ok (.iconst 3, 1) := by decide +kernel
theorem dX12_whyNot_120 : decode cX12_whyNot 120 = .ok (.ireturn, 1) := by decide +kernel
theorem dX12_whyNot_121 : decode cX12_whyNot 121 = .ok (.aload_n 0, 1) := by decide +kernel
theorem dX12_whyNot_122 : decode cX12_whyNot 122 = .ok (.iload_n 2, 1) := by decide +kernel
theorem dX12_whyNot_123 : decode cX12_whyNot 123 = .ok (.iload 5, 2) := by decide +kernel
theorem dX12_whyNot_125 : decode cX12_whyNot 125 = .ok (.invokevirtual 137, 3) := by decide +kernel
theorem dX12_whyNot_128 : decode cX12_whyNot 128 = .ok (.ifCond .ne 20, 3) := by decide +kernel
theorem dX12_whyNot_131 : decode cX12_whyNot 131 = .ok (.iload 6, 2) := by decide +kernel
theorem dX12_whyNot_133 : decode cX12_whyNot 133 = .ok (.ifCond .eq 13, 3) := by decide +kernel
theorem dX12_whyNot_136 : decode cX12_whyNot 136 = .ok (.aload_n 0, 1) := by decide +kernel
theorem dX12_whyNot_137 : decode cX12_whyNot 137 = .ok (.iload_n 3, 1) := by decide +kernel
theorem dX12_whyNot_138 : decode cX12_whyNot 138 = .ok (.iload 5, 2) := by decide +kernel
theorem dX12_whyNot_140 : decode cX12_whyNot 140 = .ok (.invokevirtual 137, 3) := by decide +kernel
theorem dX12_whyNot_143 : decode cX12_whyNot 143 = .ok (.ifCond .ne 5, 3) := by decide +kernel
theorem dX12_whyNot_146 : decode cX12_whyNot 146 = .ok (.iconst 4, 1) := by decide +kernel
theorem dX12_whyNot_147 : decode cX12_whyNot 147 = .ok (.ireturn, 1) := by decide +kernel
theorem dX12_whyNot_148 : decode cX12_whyNot 148 = .ok (.iload 9, 2) := by decide +kernel
theorem dX12_whyNot_150 : decode cX12_whyNot 150 = .ok (.ifCond .le 29, 3) := by decide +kernel
theorem dX12_whyNot_153 : decode cX12_whyNot 153 = .ok (.iload 8, 2) := by decide +kernel
theorem dX12_whyNot_155 : decode cX12_whyNot 155 = .ok (.ifCond .lt 17, 3) := by decide +kernel
theorem dX12_whyNot_158 : decode cX12_whyNot 158 = .ok (.aload_n 0, 1) := by decide +kernel
theorem dX12_whyNot_159 : decode cX12_whyNot 159 = .ok (.getfield 9, 3) := by decide +kernel
theorem dX12_whyNot_162 : decode cX12_whyNot 162 = .ok (.iconst 0, 1) := by decide +kernel
theorem dX12_whyNot_163 : decode cX12_whyNot 163 = .ok (.iaload, 1) := by decide +kernel
theorem dX12_whyNot_164 : decode cX12_whyNot 164 = .ok (.iload 8, 2) := by decide +kernel
theorem dX12_whyNot_166 : decode cX12_whyNot 166 = .ok (.isub, 1) := by decide +kernel
theorem dX12_whyNot_167 : decode cX12_whyNot 167 = .ok (.iload 9, 2) := by decide +kernel
theorem dX12_whyNot_169 : decode cX12_whyNot 169 = .ok (.if_icmp .le 10, 3) := by decide +kernel
theorem dX12_whyNot_172 : decode cX12_whyNot 172 = .ok (.iload 6, 2) := by decide +kernel
theorem dX12_whyNot_174 : decode cX12_whyNot 174 = .ok (.ifCond .ne 5, 3) := by decide +kernel
theorem dX12_whyNot_177 : decode cX12_whyNot 177 = .ok (.iconst 5, 1) := by decide +kernel
theorem dX12_whyNot_178 : decode cX12_whyNot 178 = .ok (.ireturn, 1) := by decide +kernel
theorem dX12_whyNot_179 : decode cX12_whyNot 179 = .ok (.aload_n 0, 1) := by decide +kernel
theorem dX12_whyNot_180 : decode cX12_whyNot 180 = .ok (.getfield 9, 3) := by decide +kernel
theorem dX12_whyNot_183 : decode cX12_whyNot 183 = .ok (.iconst 1, 1) := by decide +kernel
theorem dX12_whyNot_184 : decode cX12_whyNot 184 = .ok (.iaload, 1) := by decide +kernel
theorem dX12_whyNot_185 : decode cX12_whyNot 185 = .ok (.iload 5, 2) := by decide +kernel
theorem dX12_whyNot_187 : decode cX12_whyNot 187 = .ok (.invokestatic 106, 3) := by decide +kernel
theorem dX12_whyNot_190 : decode cX12_whyNot 190 = .ok (.if_icmp .le 6, 3) := by decide +kernel
theorem dX12_whyNot_193 : decode cX12_whyNot 193 = .ok (.bipush 6, 2) := by decide +kernel
theorem dX12_whyNot_195 : decode cX12_whyNot 195 = .ok (.ireturn, 1) := by decide +kernel
theorem dX12_whyNot_196 : decode cX12_whyNot 196 = .ok (.aload_n 0, 1) := by decide +kernel
theorem dX12_whyNot_197 : decode cX12_whyNot 197 = .ok (.getfield 9, 3) := by decide +kernel
theorem dX12_whyNot_200 : decode cX12_whyNot 200 = .ok (.iconst 2, 1) := by decide +kernel
theorem dX12_whyNot_201 : decode cX12_whyNot 201 = .ok (.iaload, 1) := by decide +kernel
theorem dX12_whyNot_202 : decode cX12_whyNot 202 = .ok (.aload_n 0, 1) := by decide +kernel
theorem dX12_whyNot_203 : decode cX12_whyNot 203 = .ok (.iload 4, 2) := by decide +kernel
theorem dX12_whyNot_205 : decode cX12_whyNot 205 = .ok (.iconst 2, 1) := by decide +kernel
theorem dX12_whyNot_206 : decode cX12_whyNot 206 = .ok (.invokevirtual 75, 3) := by decide +kernel
theorem dX12_whyNot_209 : decode cX12_whyNot 209 = .ok (.invokestatic 127, 3) := by decide +kernel
theorem dX12_whyNot_212 : decode cX12_whyNot 212 = .ok (.ifCond .ne 6, 3) := by decide +kernel
theorem dX12_whyNot_215 : decode cX12_whyNot 215 = .ok (.bipush 7, 2) := by decide +kernel
theorem dX12_whyNot_217 : decode cX12_whyNot 217 = .ok (.ireturn, 1) := by decide +kernel
theorem dX12_whyNot_218 : decode cX12_whyNot 218 = .ok (.aload_n 0, 1) := by decide +kernel
theorem dX12_whyNot_219 : decode cX12_whyNot 219 = .ok (.iload_n 2, 1) := by decide +kernel
theorem dX12_whyNot_220 : decode cX12_whyNot 220 = .ok (.invokevirtual 85, 3) := by decide +kernel
theorem dX12_whyNot_223 : decode cX12_whyNot 223 = .ok (.ifCond .ne 15, 3) := by decide +kernel
theorem dX12_whyNot_226 : decode cX12_whyNot 226 = .ok (.iload_n 3, 1) := by decide +kernel
theorem dX12_whyNot_227 : decode cX12_whyNot 227 = .ok (.ifCond .lt 14, 3) := by decide +kernel
theorem dX12_whyNot_230 : decode cX12_whyNot 230 = .ok (.aload_n 0, 1) := by decide +kernel
theorem dX12_whyNot_231 : decode cX12_whyNot 231 = .ok (.iload_n 3, 1) := by decide +kernel
theorem dX12_whyNot_232 : decode cX12_whyNot 232 = .ok (.invokevirtual 85, 3) := by decide +kernel
theorem dX12_whyNot_235 : decode cX12_whyNot 235 = .ok (.ifCond .eq 6, 3) := by decide +kernel
theorem dX12_whyNot_238 : decode cX12_whyNot 238 = .ok (.bipush 8, 2) := by decide +kernel
theorem dX12_whyNot_240 : decode cX12_whyNot 240 = .ok (.ireturn, 1) := by decide +kernel
theorem dX12_whyNot_241 : decode cX12_whyNot 241 = .ok (.aload_n 0, 1) := by decide +kernel
theorem dX12_whyNot_242 : decode cX12_whyNot 242 = .ok (.iconst 0, 1) := by decide +kernel
theorem dX12_whyNot_243 : decode cX12_whyNot 243 = .ok (.invokevirtual 140, 3) := by decide +kernel
theorem dX12_whyNot_246 : decode cX12_whyNot 246 = .ok (.istore 10, 2) := by decide +kernel
theorem dX12_whyNot_248 : decode cX12_whyNot 248 = .ok (.iload 10, 2) := by decide +kernel
theorem dX12_whyNot_250 : decode cX12_whyNot 250 = .ok (.ifCond .lt 29, 3) := by decide +kernel
theorem dX12_whyNot_253 : decode cX12_whyNot 253 = .ok (.aload_n 0, 1) := by decide +kernel
theorem dX12_whyNot_254 : decode cX12_whyNot 254 = .ok (.iload 10, 2) := by decide +kernel
theorem dX12_whyNot_256 : decode cX12_whyNot 256 = .ok (.aload_n 0, 1) := by decide +kernel
theorem dX12_whyNot_257 : decode cX12_whyNot 257 = .ok (.iload_n 1, 1) := by decide +kernel
theorem dX12_whyNot_258 : decode cX12_whyNot 258 = .ok (.iconst 4, 1) := by decide +kernel
theorem dX12_whyNot_259 : decode cX12_whyNot 259 = .ok (.invokevirtual 67, 3) := by decide +kernel
theorem dX12_whyNot_262 : decode cX12_whyNot 262 = .ok (.aload_n 0, 1) := by decide +kernel
theorem dX12_whyNot_263 : decode cX12_whyNot 263 = .ok (.iload_n 1, 1) := by decide +kernel
theorem dX12_whyNot_264 : decode cX12_whyNot 264 = .ok (.iconst 5, 1) := by decide +kernel
theorem dX12_whyNot_265 : decode cX12_whyNot 265 = .ok (.invokevirtual 67, 3) := by decide +kernel
theorem dX12_whyNot_268 : decode cX12_whyNot 268 = .ok (.iload 5, 2) := by decide +kernel
theorem dX12_whyNot_270 : decode cX12_whyNot 270 = .ok (.invokevirtual 143, 3) := by decide +kernel
theorem dX12_whyNot_273 : decode cX12_whyNot 273 = .ok (.ifCond .eq 6, 3) := by decide +kernel
theorem dX12_whyNot_276 : decode cX12_whyNot 276 = .ok (.bipush 9, 2) := by decide +kernel
theorem dX12_whyNot_278 : decode cX12_whyNot 278 = .ok (.ireturn, 1) := by decide +kernel
theorem dX12_whyNot_279 : decode cX12_whyNot 279 = .ok (.aload_n 0, 1) := by decide +kernel
theorem dX12_whyNot_280 : decode cX12_whyNot 280 = .ok (.iload 5, 2) := by decide +kernel
theorem dX12_whyNot_282 : decode cX12_whyNot 282 = .ok (.invokevirtual 147, 3) := by decide +kernel
theorem dX12_whyNot_285 : decode cX12_whyNot 285 = .ok (.ifCond .ne 6, 3) := by decide +kernel
theorem dX12_whyNot_288 : decode cX12_whyNot 288 = .ok (.bipush 10, 2) := by decide +kernel
theorem dX12_whyNot_290 : decode cX12_whyNot 290 = .ok (.ireturn, 1) := by decide +kernel
theorem dX12_whyNot_291 : decode cX12_whyNot 291 = .ok (.aload_n 0, 1) := by decide +kernel
theorem dX12_whyNot_292 : decode cX12_whyNot 292 = .ok (.aload_n 0, 1) := by decide +kernel
theorem dX12_whyNot_293 : decode cX12_whyNot 293 = .ok (.iload_n 1, 1) := by decide +kernel
theorem dX12_whyNot_294 : decode cX12_whyNot 294 = .ok (.invokevirtual 150, 3) := by decide +kernel
theorem dX12_whyNot_297 : decode cX12_whyNot 297 = .ok (.aload_n 0, 1) := by decide +kernel
theorem dX12_whyNot_298 : decode cX12_whyNot 298 = .ok (.iload_n 1, 1) := by decide +kernel
theorem dX12_whyNot_299 : decode cX12_whyNot 299 = .ok (.invokevirtual 153, 3) := by decide +kernel
theorem dX12_whyNot_302 : decode cX12_whyNot 302 = .ok (.invokevirtual 156, 3) := by decide +kernel
theorem dX12_whyNot_305 : decode cX12_whyNot 305 = .ok (.ifCond .eq 7, 3) := by decide +kernel
theorem dX12_whyNot_308 : decode cX12_whyNot 308 = .ok (.iconst 0, 1) := by decide +kernel
theorem dX12_whyNot_309 : decode cX12_whyNot 309 = .ok (.goto 5, 3) := by decide +kernel
theorem dX12_whyNot_312 : decode cX12_whyNot 312 = .ok (.bipush 11, 2) := by decide +kernel
theorem dX12_whyNot_314 : decode cX12_whyNot 314 = .ok (.ireturn, 1) := by decide +kernel
theorem dX12_why_0 : decode cX12_why 0 = .ok (.aload_n 0, 1) := by decide +kernel
theorem dX12_why_1 : decode cX12_why 1 = .ok (.iload_n 1, 1) := by decide +kernel
theorem dX12_why_2 : decode cX12_why 2 = .ok (.bipush 7, 2) := by decide +kernel
theorem dX12_why_4 : decode cX12_why 4 = .ok (.invokevirtual 71, 3) := by decide +kernel
theorem dX12_why_7 : decode cX12_why 7 = .ok (.ifCond .ne 10, 3) := by decide +kernel
theorem dX12_why_10 : decode cX12_why 10 = .ok (.aload_n 0, 1) := by decide +kernel
theorem dX12_why_11 : decode cX12_why 11 = .ok (.ldc 57, 2) := by decide +kernel
theorem dX12_why_13 : decode cX12_why 13 = .ok (.invokevirtual 62, 3) := by decide +kernel
theorem dX12_why_16 : decode cX12_why 16 = .ok (.ireturn, 1) := by decide +kernel
theorem dX12_why_17 : decode cX12_why 17 = .ok (.aload_n 0, 1) := by decide +kernel
theorem dX12_why_18 : decode cX12_why 18 = .ok (.iload_n 1, 1) := by decide +kernel
theorem dX12_why_19 : decode cX12_why 19 = .ok (.bipush 6, 2) := by decide +kernel
theorem dX12_why_21 : decode cX12_why 21 = .ok (.invokevirtual 67, 3) := by decide +kernel
theorem dX12_why_24 : decode cX12_why 24 = .ok (.ifCond .ne 11, 3) := by decide +kernel
theorem dX12_why_27 : decode cX12_why 27 = .ok (.aload_n 0, 1) := by decide +kernel
theorem dX12_why_28 : decode cX12_why 28 = .ok (.iload_n 1, 1) := by decide +kernel
theorem dX12_why_29 : decode cX12_why 29 = .ok (.invokevirtual 159, 3) := by decide +kernel
theorem dX12_why_32 : decode cX12_why 32 = .ok (.goto 9, 3) := by decide +kernel
theorem dX12_why_35 : decode cX12_why 35 = .ok (.aload_n 0, 1) := by decide +kernel
theorem dX12_why_36 : decode cX12_why 36 = .ok (.ldc 95, 2) := by decide +kernel
theorem dX12_why_38 : decode cX12_why 38 = .ok (.invokevirtual 62, 3) := by decide +kernel
theorem dX12_why_41 : decode cX12_why 41 = .ok (.ireturn, 1) := by decide +kernel
theorem dX12_clear_0 : decode cX12_clear 0 = .ok (.iload_n 1, 1) := by decide +kernel
theorem dX12_clear_1 : decode cX12_clear 1 = .ok (.invokestatic 100, 3) := by decide +kernel
theorem dX12_clear_4 : decode cX12_clear 4 = .ok (.ifCond .eq 30, 3) := by decide +kernel
theorem dX12_clear_7 : decode cX12_clear 7 = .ok (.iload_n 2, 1) := by decide +kernel
theorem dX12_clear_8 : decode cX12_clear 8 = .ok (.iconst 1, 1) := by decide +kernel
theorem dX12_clear_9 : decode cX12_clear 9 = .ok (.bipush 60, 2) := by decide +kernel
theorem dX12_clear_11 : decode cX12_clear 11 = .ok (.invokestatic 58, 3) := by decide +kernel
theorem dX12_clear_14 : decode cX12_clear 14 = .ok (.ifCond .eq 20, 3) := by decide +kernel
theorem dX12_clear_17 : decode cX12_clear 17 = .ok (.aload_n 0, 1) := by decide +kernel
theorem dX12_clear_18 : decode cX12_clear 18 = .ok (.iload_n 1, 1) := by decide +kernel
theorem dX12_clear_19 : decode cX12_clear 19 = .ok (.iload_n 2, 1) := by decide +kernel
theorem dX12_clear_20 : decode cX12_clear 20 = .ok (.invokevirtual 156, 3) := by decide +kernel
theorem dX12_clear_23 : decode cX12_clear 23 = .ok (.ifCond .eq 7, 3) := by decide +kernel
theorem dX12_clear_26 : decode cX12_clear 26 = .ok (.iconst 1, 1) := by decide +kernel
theorem dX12_clear_27 : decode cX12_clear 27 = .ok (.goto 13, 3) := by decide +kernel
theorem dX12_clear_30 : decode cX12_clear 30 = .ok (.iconst 0, 1) := by decide +kernel
theorem dX12_clear_31 : decode cX12_clear 31 = .ok (.goto 9, 3) := by decide +kernel
theorem dX12_clear_34 : decode cX12_clear 34 = .ok (.aload_n 0, 1) := by decide +kernel
theorem dX12_clear_35 : decode cX12_clear 35 = .ok (.ldc 57, 2) := by decide +kernel
theorem dX12_clear_37 : decode cX12_clear 37 = .ok (.invokevirtual 62, 3) := by decide +kernel
theorem dX12_clear_40 : decode cX12_clear 40 = .ok (.ireturn, 1) := by decide +kernel
theorem dX12_dueOf_0 : decode cX12_dueOf 0 = .ok (.aload_n 0, 1) := by decide +kernel
theorem dX12_dueOf_1 : decode cX12_dueOf 1 = .ok (.iload_n 1, 1) := by decide +kernel
theorem dX12_dueOf_2 : decode cX12_dueOf 2 = .ok (.bipush 7, 2) := by decide +kernel
theorem dX12_dueOf_4 : decode cX12_dueOf 4 = .ok (.invokevirtual 67, 3) := by decide +kernel
theorem dX12_dueOf_7 : decode cX12_dueOf 7 = .ok (.aload_n 0, 1) := by decide +kernel
theorem dX12_dueOf_8 : decode cX12_dueOf 8 = .ok (.iload_n 1, 1) := by decide +kernel
theorem dX12_dueOf_9 : decode cX12_dueOf 9 = .ok (.invokevirtual 153, 3) := by decide +kernel
theorem dX12_dueOf_12 : decode cX12_dueOf 12 = .ok (.iadd, 1) := by decide +kernel
theorem dX12_dueOf_13 : decode cX12_dueOf 13 = .ok (.aload_n 0, 1) := by decide +kernel
theorem dX12_dueOf_14 : decode cX12_dueOf 14 = .ok (.iload_n 1, 1) := by decide +kernel
theorem dX12_dueOf_15 : decode cX12_dueOf 15 = .ok (.iconst 5, 1) := by decide +kernel
theorem dX12_dueOf_16 : decode cX12_dueOf 16 = .ok (.invokevirtual 67, 3) := by decide +kernel
theorem dX12_dueOf_19 : decode cX12_dueOf 19 = .ok (.aload_n 0, 1) := by decide +kernel
theorem dX12_dueOf_20 : decode cX12_dueOf 20 = .ok (.getfield 9, 3) := by decide +kernel
theorem dX12_dueOf_23 : decode cX12_dueOf 23 = .ok (.bipush 29, 2) := by decide +kernel
theorem dX12_dueOf_25 : decode cX12_dueOf 25 = .ok (.iaload, 1) := by decide +kernel
theorem dX12_dueOf_26 : decode cX12_dueOf 26 = .ok (.invokestatic 112, 3) := by decide +kernel
theorem dX12_dueOf_29 : decode cX12_dueOf 29 = .ok (.iadd, 1) := by decide +kernel
theorem dX12_dueOf_30 : decode cX12_dueOf 30 = .ok (.ireturn, 1) := by decide +kernel
theorem dX12_lands_0 : decode cX12_lands 0 = .ok (.iconst (-1), 1) := by decide +kernel
theorem dX12_lands_1 : decode cX12_lands 1 = .ok (.istore_n 1, 1) := by decide +kernel
theorem dX12_lands_2 : decode cX12_lands 2 = .ok (.iconst 0, 1) := by decide +kernel
theorem dX12_lands_3 : decode cX12_lands 3 = .ok (.istore_n 2, 1) := by decide +kernel
theorem dX12_lands_4 : decode cX12_lands 4 = .ok (.iload_n 2, 1) := by decide +kernel
theorem dX12_lands_5 : decode cX12_lands 5 = .ok (.aload_n 0, 1) := by decide +kernel
theorem dX12_lands_6 : decode cX12_lands 6 = .ok (.getfield 9, 3) := by decide +kernel
theorem dX12_lands_9 : decode cX12_lands 9 = .ok (.bipush 7, 2) := by decide +kernel
theorem dX12_lands_11 : decode cX12_lands 11 = .ok (.iaload, 1) := by decide +kernel
theorem dX12_lands_12 : decode cX12_lands 12 = .ok (.if_icmp .ge 67, 3) := by decide +kernel
theorem dX12_lands_15 : decode cX12_lands 15 = .ok (.aload_n 0, 1) := by decide +kernel
theorem dX12_lands_16 : decode cX12_lands 16 = .ok (.iload_n 2, 1) := by decide +kernel
theorem dX12_lands_17 : decode cX12_lands 17 = .ok (.bipush 6, 2) := by decide +kernel
theorem dX12_lands_19 : decode cX12_lands 19 = .ok (.invokevirtual 67, 3) := by decide +kernel
theorem dX12_lands_22 : decode cX12_lands 22 = .ok (.iconst 1, 1) := by decide +kernel
theorem dX12_lands_23 : decode cX12_lands 23 = .ok (.if_icmp .ne 21, 3) := by decide +kernel
theorem dX12_lands_26 : decode cX12_lands 26 = .ok (.aload_n 0, 1) := by decide +kernel
theorem dX12_lands_27 : decode cX12_lands 27 = .ok (.iload_n 2, 1) := by decide +kernel
theorem dX12_lands_28 : decode cX12_lands 28 = .ok (.invokevirtual 162, 3) := by decide +kernel
theorem dX12_lands_31 : decode cX12_lands 31 = .ok (.aload_n 0, 1) := by decide +kernel
theorem dX12_lands_32 : decode cX12_lands 32 = .ok (.getfield 9, 3) := by decide +kernel
theorem dX12_lands_35 : decode cX12_lands 35 = .ok (.iconst 0, 1) := by decide +kernel
theorem dX12_lands_36 : decode cX12_lands 36 = .ok (.iaload, 1) := by decide +kernel
theorem dX12_lands_37 : decode cX12_lands 37 = .ok (.if_icmp .gt 7, 3) := by decide +kernel
theorem dX12_lands_40 : decode cX12_lands 40 = .ok (.iconst 1, 1) := by decide +kernel
theorem dX12_lands_41 : decode cX12_lands 41 = .ok (.goto 4, 3) := by decide +kernel
theorem dX12_lands_44 : decode cX12_lands 44 = .ok (.iconst 0, 1) := by decide +kernel
theorem dX12_lands_45 : decode cX12_lands 45 = .ok (.istore_n 3, 1) := by decide +kernel
theorem dX12_lands_46 : decode cX12_lands 46 = .ok (.iload_n 3, 1) := by decide +kernel
theorem dX12_lands_47 : decode cX12_lands 47 = .ok (.ifCond .eq 24, 3) := by decide +kernel
theorem dX12_lands_50 : decode cX12_lands 50 = .ok (.iload_n 1, 1) := by decide +kernel
theorem dX12_lands_51 : decode cX12_lands 51 = .ok (.ifCond .lt 16, 3) := by decide +kernel
theorem dX12_lands_54 : decode cX12_lands 54 = .ok (.aload_n 0, 1) := by decide +kernel
theorem dX12_lands_55 : decode cX12_lands 55 = .ok (.iload_n 2, 1) := by decide +kernel
theorem dX12_lands_56 : decode cX12_lands 56 = .ok (.invokevirtual 162, 3) := by decide +kernel
theorem dX12_lands_59 : decode cX12_lands 59 = .ok (.aload_n 0, 1) := by decide +kernel
theorem dX12_lands_60 : decode cX12_lands 60 = .ok (.iload_n 1, 1) := by decide +kernel
theorem dX12_lands_61 : decode cX12_lands 61 = .ok (.invokevirtual 162, 3) := by decide +kernel
theorem dX12_lands_64 : decode cX12_lands 64 = .ok (.if_icmp .ge 7, 3) := by decide +kernel
theorem dX12_lands_67 : decode cX12_lands 67 = .ok (.iload_n 2, 1) := by decide +kernel
theorem dX12_lands_68 : decode cX12_lands 68 = .ok (.goto 4, 3) := by decide +kernel
theorem dX12_lands_71 : decode cX12_lands 71 = .ok (.iload_n 1, 1) := by decide +kernel
theorem dX12_lands_72 : decode cX12_lands 72 = .ok (.istore_n 1, 1) := by decide +kernel
theorem dX12_lands_73 : decode cX12_lands 73 = .ok (.iinc 2 1, 3) := by decide +kernel
theorem dX12_lands_76 : decode cX12_lands 76 = .ok (.goto (-72), 3) := by decide +kernel
theorem dX12_lands_79 : decode cX12_lands 79 = .ok (.iload_n 1, 1) := by decide +kernel
theorem dX12_lands_80 : decode cX12_lands 80 = .ok (.ifCond .lt 22, 3) := by decide +kernel
theorem dX12_lands_83 : decode cX12_lands 83 = .ok (.aload_n 0, 1) := by decide +kernel
theorem dX12_lands_84 : decode cX12_lands 84 = .ok (.aload_n 0, 1) := by decide +kernel
theorem dX12_lands_85 : decode cX12_lands 85 = .ok (.getfield 9, 3) := by decide +kernel
theorem dX12_lands_88 : decode cX12_lands 88 = .ok (.bipush 18, 2) := by decide +kernel
theorem dX12_lands_90 : decode cX12_lands 90 = .ok (.iaload, 1) := by decide +kernel
theorem dX12_lands_91 : decode cX12_lands 91 = .ok (.iconst 2, 1) := by decide +kernel
theorem dX12_lands_92 : decode cX12_lands 92 = .ok (.invokevirtual 156, 3) := by decide +kernel
theorem dX12_lands_95 : decode cX12_lands 95 = .ok (.ifCond .eq 7, 3) := by decide +kernel
theorem dX12_lands_98 : decode cX12_lands 98 = .ok (.iload_n 1, 1) := by decide +kernel
theorem dX12_lands_99 : decode cX12_lands 99 = .ok (.goto 4, 3) := by decide +kernel
theorem dX12_lands_102 : decode cX12_lands 102 = .ok (.iconst (-1), 1) := by decide +kernel
theorem dX12_lands_103 : decode cX12_lands 103 = .ok (.ireturn, 1) := by decide +kernel
theorem dX12_starts_0 : decode cX12_starts 0 = .ok (.iconst 0, 1) := by decide +kernel
theorem dX12_starts_1 : decode cX12_starts 1 = .ok (.istore_n 1, 1) := by decide +kernel
theorem dX12_starts_2 : decode cX12_starts 2 = .ok (.iload_n 1, 1) := by decide +kernel
theorem dX12_starts_3 : decode cX12_starts 3 = .ok (.aload_n 0, 1) := by decide +kernel
theorem dX12_starts_4 : decode cX12_starts 4 = .ok (.getfield 9, 3) := by decide +kernel
theorem dX12_starts_7 : decode cX12_starts 7 = .ok (.bipush 7, 2) := by decide +kernel
theorem dX12_starts_9 : decode cX12_starts 9 = .ok (.iaload, 1) := by decide +kernel
theorem dX12_starts_10 : decode cX12_starts 10 = .ok (.if_icmp .ge 29, 3) := by decide +kernel
theorem dX12_starts_13 : decode cX12_starts 13 = .ok (.aload_n 0, 1) := by decide +kernel
theorem dX12_starts_14 : decode cX12_starts 14 = .ok (.iload_n 1, 1) := by decide +kernel
theorem dX12_starts_15 : decode cX12_starts 15 = .ok (.bipush 6, 2) := by decide +kernel
theorem dX12_starts_17 : decode cX12_starts 17 = .ok (.invokevirtual 67, 3) := by decide +kernel
theorem dX12_starts_20 : decode cX12_starts 20 = .ok (.ifCond .ne 13, 3) := by decide +kernel
theorem dX12_starts_23 : decode cX12_starts 23 = .ok (.aload_n 0, 1) := by decide +kernel
theorem dX12_starts_24 : decode cX12_starts 24 = .ok (.iload_n 1, 1) := by decide +kernel
theorem dX12_starts_25 : decode cX12_starts 25 = .ok (.invokevirtual 159, 3) := by decide +kernel
theorem dX12_starts_28 : decode cX12_starts 28 = .ok (.ifCond .ne 5, 3) := by decide +kernel
theorem dX12_starts_31 : decode cX12_starts 31 = .ok (.iload_n 1, 1) := by decide +kernel
theorem dX12_starts_32 : decode cX12_starts 32 = .ok (.ireturn, 1) := by decide +kernel
theorem dX12_starts_33 : decode cX12_starts 33 = .ok (.iinc 1 1, 3) := by decide +kernel
theorem dX12_starts_36 : decode cX12_starts 36 = .ok (.goto (-34), 3) := by decide +kernel
theorem dX12_starts_39 : decode cX12_starts 39 = .ok (.iconst (-1), 1) := by decide +kernel
theorem dX12_starts_40 : decode cX12_starts 40 = .ok (.ireturn, 1) := by decide +kernel
theorem dX12_fetches_0 : decode cX12_fetches 0 = .ok (.iconst 0, 1) := by decide +kernel
theorem dX12_fetches_1 : decode cX12_fetches 1 = .ok (.istore_n 1, 1) := by decide +kernel
theorem dX12_fetches_2 : decode cX12_fetches 2 = .ok (.iload_n 1, 1) := by decide +kernel
theorem dX12_fetches_3 : decode cX12_fetches 3 = .ok (.aload_n 0, 1) := by decide +kernel
theorem dX12_fetches_4 : decode cX12_fetches 4 = .ok (.getfield 9, 3) := by decide +kernel
theorem dX12_fetches_7 : decode cX12_fetches 7 = .ok (.iconst 5, 1) := by decide +kernel
theorem dX12_fetches_8 : decode cX12_fetches 8 = .ok (.iaload, 1) := by decide +kernel
theorem dX12_fetches_9 : decode cX12_fetches 9 = .ok (.if_icmp .ge 62, 3) := by decide +kernel
theorem dX12_fetches_12 : decode cX12_fetches 12 = .ok (.aload_n 0, 1) := by decide +kernel
theorem dX12_fetches_13 : decode cX12_fetches 13 = .ok (.getfield 9, 3) := by decide +kernel
theorem dX12_fetches_16 : decode cX12_fetches 16 = .ok (.iload_n 1, 1) := by decide +kernel
theorem dX12_fetches_17 : decode cX12_fetches 17 = .ok (.iconst 0, 1) := by decide +kernel
theorem dX12_fetches_18 : decode cX12_fetches 18 = .ok (.invokestatic 92, 3) := by decide +kernel
theorem dX12_fetches_21 : decode cX12_fetches 21 = .ok (.iaload, 1) := by decide +kernel
theorem dX12_fetches_22 : decode cX12_fetches 22 = .ok (.ifCond .eq 16, 3) := by decide +kernel
theorem dX12_fetches_25 : decode cX12_fetches 25 = .ok (.aload_n 0, 1) := by decide +kernel
theorem dX12_fetches_26 : decode cX12_fetches 26 = .ok (.getfield 9, 3) := by decide +kernel
theorem dX12_fetches_29 : decode cX12_fetches 29 = .ok (.iload_n 1, 1) := by decide +kernel
theorem dX12_fetches_30 : decode cX12_fetches 30 = .ok (.iconst 1, 1) := by decide +kernel
theorem dX12_fetches_31 : decode cX12_fetches 31 = .ok (.invokestatic 92, 3) := by decide +kernel
theorem dX12_fetches_34 : decode cX12_fetches 34 = .ok (.iaload, 1) := by decide +kernel
theorem dX12_fetches_35 : decode cX12_fetches 35 = .ok (.ifCond .ne 30, 3) := by decide +kernel
theorem dX12_fetches_38 : decode cX12_fetches 38 = .ok (.aload_n 0, 1) := by decide +kernel
theorem dX12_fetches_39 : decode cX12_fetches 39 = .ok (.aload_n 0, 1) := by decide +kernel
theorem dX12_fetches_40 : decode cX12_fetches 40 = .ok (.getfield 9, 3) := by decide +kernel
theorem dX12_fetches_43 : decode cX12_fetches 43 = .ok (.bipush 19, 2) := by decide +kernel
theorem dX12_fetches_45 : decode cX12_fetches 45 = .ok (.iaload, 1) := by decide +kernel
theorem dX12_fetches_46 : decode cX12_fetches 46 = .ok (.aload_n 0, 1) := by decide +kernel
theorem dX12_fetches_47 : decode cX12_fetches 47 = .ok (.getfield 9, 3) := by decide +kernel
theorem dX12_fetches_50 : decode cX12_fetches 50 = .ok (.bipush 26, 2) := by decide +kernel
theorem dX12_fetches_52 : decode cX12_fetches 52 = .ok (.iaload, 1) := by decide +kernel
theorem dX12_fetches_53 : decode cX12_fetches 53 = .ok (.invokevirtual 156, 3) := by decide +kernel
theorem dX12_fetches_56 : decode cX12_fetches 56 = .ok (.ifCond .eq 7, 3) := by decide +kernel
theorem dX12_fetches_59 : decode cX12_fetches 59 = .ok (.iload_n 1, 1) := by decide +kernel
theorem dX12_fetches_60 : decode cX12_fetches 60 = .ok (.goto 4, 3) := by decide +kernel
theorem dX12_fetches_63 : decode cX12_fetches 63 = .ok (.iconst (-1), 1) := by decide +kernel
theorem dX12_fetches_64 : decode cX12_fetches 64 = .ok (.ireturn, 1) := by decide +kernel
theorem dX12_fetches_65 : decode cX12_fetches 65 = .ok (.iinc 1 1, 3) := by decide +kernel
theorem dX12_fetches_68 : decode cX12_fetches 68 = .ok (.goto (-66), 3) := by decide +kernel
theorem dX12_fetches_71 : decode cX12_fetches 71 = .ok (.iconst (-1), 1) := by decide +kernel
theorem dX12_fetches_72 : decode cX12_fetches 72 = .ok (.ireturn, 1) := by decide +kernel
theorem dX12_next_0 : decode cX12_next 0 = .ok (.aload_n 0, 1) := by decide +kernel
theorem dX12_next_1 : decode cX12_next 1 = .ok (.invokevirtual 165, 3) := by decide +kernel
theorem dX12_next_4 : decode cX12_next 4 = .ok (.istore_n 1, 1) := by decide +kernel
theorem dX12_next_5 : decode cX12_next 5 = .ok (.aload_n 0, 1) := by decide +kernel
theorem dX12_next_6 : decode cX12_next 6 = .ok (.invokevirtual 168, 3) := by decide +kernel
theorem dX12_next_9 : decode cX12_next 9 = .ok (.istore_n 2, 1) := by decide +kernel
theorem dX12_next_10 : decode cX12_next 10 = .ok (.aload_n 0, 1) := by decide +kernel
theorem dX12_next_11 : decode cX12_next 11 = .ok (.invokevirtual 171, 3) := by decide +kernel
theorem dX12_next_14 : decode cX12_next 14 = .ok (.istore_n 3, 1) := by decide +kernel
theorem dX12_next_15 : decode cX12_next 15 = .ok (.iload_n 1, 1) := by decide +kernel
theorem dX12_next_16 : decode cX12_next 16 = .ok (.ifCond .lt 11, 3) := by decide +kernel
theorem dX12_next_19 : decode cX12_next 19 = .ok (.sipush 1000, 3) := by decide +kernel
theorem dX12_next_22 : decode cX12_next 22 = .ok (.iload_n 1, 1) := by decide +kernel
theorem dX12_next_23 : decode cX12_next 23 = .ok (.iadd, 1) := by decide +kernel
theorem dX12_next_24 : decode cX12_next 24 = .ok (.goto 28, 3) := by decide +kernel
theorem dX12_next_27 : decode cX12_next 27 = .ok (.iload_n 2, 1) := by decide +kernel
theorem dX12_next_28 : decode cX12_next 28 = .ok (.ifCond .lt 11, 3) := by decide +kernel
theorem dX12_next_31 : decode cX12_next 31 = .ok (.sipush 2000, 3) := by decide +kernel
theorem dX12_next_34 : decode cX12_next 34 = .ok (.iload_n 2, 1) := by decide +kernel
theorem dX12_next_35 : decode cX12_next 35 = .ok (.iadd, 1) := by decide +kernel
theorem dX12_next_36 : decode cX12_next 36 = .ok (.goto 16, 3) := by decide +kernel
theorem dX12_next_39 : decode cX12_next 39 = .ok (.iload_n 3, 1) := by decide +kernel
theorem dX12_next_40 : decode cX12_next 40 = .ok (.ifCond .lt 11, 3) := by decide +kernel
theorem dX12_next_43 : decode cX12_next 43 = .ok (.sipush 3000, 3) := by decide +kernel
theorem dX12_next_46 : decode cX12_next 46 = .ok (.iload_n 3, 1) := by decide +kernel
theorem dX12_next_47 : decode cX12_next 47 = .ok (.iadd, 1) := by decide +kernel
theorem dX12_next_48 : decode cX12_next 48 = .ok (.goto 4, 3) := by decide +kernel
theorem dX12_next_51 : decode cX12_next 51 = .ok (.iconst 0, 1) := by decide +kernel
theorem dX12_next_52 : decode cX12_next 52 = .ok (.ireturn, 1) := by decide +kernel
theorem dX12_costOf_0 : decode cX12_costOf 0 = .ok (.aload_n 0, 1) := by decide +kernel
theorem dX12_costOf_1 : decode cX12_costOf 1 = .ok (.getfield 9, 3) := by decide +kernel
theorem dX12_costOf_4 : decode cX12_costOf 4 = .ok (.iconst 0, 1) := by decide +kernel
theorem dX12_costOf_5 : decode cX12_costOf 5 = .ok (.iaload, 1) := by decide +kernel
theorem dX12_costOf_6 : decode cX12_costOf 6 = .ok (.aload_n 0, 1) := by decide +kernel
theorem dX12_costOf_7 : decode cX12_costOf 7 = .ok (.iload_n 1, 1) := by decide +kernel
theorem dX12_costOf_8 : decode cX12_costOf 8 = .ok (.bipush 7, 2) := by decide +kernel
theorem dX12_costOf_10 : decode cX12_costOf 10 = .ok (.invokevirtual 67, 3) := by decide +kernel
theorem dX12_costOf_13 : decode cX12_costOf 13 = .ok (.isub, 1) := by decide +kernel
theorem dX12_costOf_14 : decode cX12_costOf 14 = .ok (.aload_n 0, 1) := by decide +kernel
theorem dX12_costOf_15 : decode cX12_costOf 15 = .ok (.iload_n 1, 1) := by decide +kernel
theorem dX12_costOf_16 : decode cX12_costOf 16 = .ok (.invokevirtual 153, 3) := by decide +kernel
theorem dX12_costOf_19 : decode cX12_costOf 19 = .ok (.isub, 1) := by decide +kernel
theorem dX12_costOf_20 : decode cX12_costOf 20 = .ok (.istore_n 2, 1) := by decide +kernel
theorem dX12_costOf_21 : decode cX12_costOf 21 = .ok (.aload_n 0, 1) := by decide +kernel
theorem dX12_costOf_22 : decode cX12_costOf 22 = .ok (.iconst 1, 1) := by decide +kernel
theorem dX12_costOf_23 : decode cX12_costOf 23 = .ok (.invokevirtual 140, 3) := by decide +kernel
theorem dX12_costOf_26 : decode cX12_costOf 26 = .ok (.istore_n 3, 1) := by decide +kernel
theorem dX12_costOf_27 : decode cX12_costOf 27 = .ok (.iload_n 3, 1) := by decide +kernel
theorem dX12_costOf_28 : decode cX12_costOf 28 = .ok (.ifCond .ge 25, 3) := by decide +kernel
theorem dX12_costOf_31 : decode cX12_costOf 31 = .ok (.bipush 10, 2) := by decide +kernel
theorem dX12_costOf_33 : decode cX12_costOf 33 = .ok (.aload_n 0, 1) := by decide +kernel
theorem dX12_costOf_34 : decode cX12_costOf 34 = .ok (.iload_n 1, 1) := by decide +kernel
theorem dX12_costOf_35 : decode cX12_costOf 35 = .ok (.invokevirtual 153, 3) := by decide +kernel
theorem dX12_costOf_38 : decode cX12_costOf 38 = .ok (.imul, 1) := by decide +kernel
theorem dX12_costOf_39 : decode cX12_costOf 39 = .ok (.iconst 2, 1) := by decide +kernel
theorem dX12_costOf_40 : decode cX12_costOf 40 = .ok (.aload_n 0, 1) := by decide +kernel
theorem dX12_costOf_41 : decode cX12_costOf 41 = .ok (.iload_n 1, 1) := by decide +kernel
theorem dX12_costOf_42 : decode cX12_costOf 42 = .ok (.iconst 4, 1) := by decide +kernel
theorem dX12_costOf_43 : decode cX12_costOf 43 = .ok (.invokevirtual 67, 3) := by decide +kernel
theorem dX12_costOf_46 : decode cX12_costOf 46 = .ok (.imul, 1) := by decide +kernel
theorem dX12_costOf_47 : decode cX12_costOf 47 = .ok (.iadd, 1) := by decide +kernel
theorem dX12_costOf_48 : decode cX12_costOf 48 = .ok (.iload_n 2, 1) := by decide +kernel
theorem dX12_costOf_49 : decode cX12_costOf 49 = .ok (.iadd, 1) := by decide +kernel
theorem dX12_costOf_50 : decode cX12_costOf 50 = .ok (.goto 21, 3) := by decide +kernel
theorem dX12_costOf_53 : decode cX12_costOf 53 = .ok (.aload_n 0, 1) := by decide +kernel
theorem dX12_costOf_54 : decode cX12_costOf 54 = .ok (.iload_n 3, 1) := by decide +kernel
theorem dX12_costOf_55 : decode cX12_costOf 55 = .ok (.aload_n 0, 1) := by decide +kernel
theorem dX12_costOf_56 : decode cX12_costOf 56 = .ok (.iload_n 1, 1) := by decide +kernel
theorem dX12_costOf_57 : decode cX12_costOf 57 = .ok (.iconst 4, 1) := by decide +kernel
theorem dX12_costOf_58 : decode cX12_costOf 58 = .ok (.invokevirtual 67, 3) := by decide +kernel
theorem dX12_costOf_61 : decode cX12_costOf 61 = .ok (.iload_n 2, 1) := by decide +kernel
theorem dX12_costOf_62 : decode cX12_costOf 62 = .ok (.aload_n 0, 1) := by decide +kernel
theorem dX12_costOf_63 : decode cX12_costOf 63 = .ok (.iload_n 1, 1) := by decide +kernel
theorem dX12_costOf_64 : decode cX12_costOf 64 = .ok (.iconst 3, 1) := by decide +kernel
theorem dX12_costOf_65 : decode cX12_costOf 65 = .ok (.invokevirtual 67, 3) := by decide +kernel
theorem dX12_costOf_68 : decode cX12_costOf 68 = .ok (.invokevirtual 143, 3) := by decide +kernel
theorem dX12_costOf_71 : decode cX12_costOf 71 = .ok (.istore 4, 2) := by decide +kernel
theorem dX12_costOf_73 : decode cX12_costOf 73 = .ok (.iconst 0, 1) := by decide +kernel
theorem dX12_costOf_74 : decode cX12_costOf 74 = .ok (.sipush 9999, 3) := by decide +kernel
theorem dX12_costOf_77 : decode cX12_costOf 77 = .ok (.iload 4, 2) := by decide +kernel
theorem dX12_costOf_79 : decode cX12_costOf 79 = .ok (.invokestatic 174, 3) := by decide +kernel
theorem dX12_costOf_82 : decode cX12_costOf 82 = .ok (.invokestatic 112, 3) := by decide +kernel
theorem dX12_costOf_85 : decode cX12_costOf 85 = .ok (.ireturn, 1) := by decide +kernel
theorem dX12_goesDown_0 : decode cX12_goesDown 0 = .ok (.sipush 146, 3) := by decide +kernel
theorem dX12_goesDown_3 : decode cX12_goesDown 3 = .ok (.bipush 10, 2) := by decide +kernel
theorem dX12_goesDown_5 : decode cX12_goesDown 5 = .ok (.iload_n 1, 1) := by decide +kernel
theorem dX12_goesDown_6 : decode cX12_goesDown 6 = .ok (.imul, 1) := by decide +kernel
theorem dX12_goesDown_7 : decode cX12_goesDown 7 = .ok (.iadd, 1) := by decide +kernel
theorem dX12_goesDown_8 : decode cX12_goesDown 8 = .ok (.istore_n 2, 1) := by decide +kernel
theorem dX12_goesDown_9 : decode cX12_goesDown 9 = .ok (.aload_n 0, 1) := by decide +kernel
theorem dX12_goesDown_10 : decode cX12_goesDown 10 = .ok (.getfield 9, 3) := by decide +kernel
theorem dX12_goesDown_13 : decode cX12_goesDown 13 = .ok (.iload_n 2, 1) := by decide +kernel
theorem dX12_goesDown_14 : decode cX12_goesDown 14 = .ok (.bipush 9, 2) := by decide +kernel
theorem dX12_goesDown_16 : decode cX12_goesDown 16 = .ok (.iadd, 1) := by decide +kernel
theorem dX12_goesDown_17 : decode cX12_goesDown 17 = .ok (.aload_n 0, 1) := by decide +kernel
theorem dX12_goesDown_18 : decode cX12_goesDown 18 = .ok (.iload_n 1, 1) := by decide +kernel
theorem dX12_goesDown_19 : decode cX12_goesDown 19 = .ok (.invokevirtual 177, 3) := by decide +kernel
theorem dX12_goesDown_22 : decode cX12_goesDown 22 = .ok (.iastore, 1) := by decide +kernel
theorem dX12_goesDown_23 : decode cX12_goesDown 23 = .ok (.aload_n 0, 1) := by decide +kernel
theorem dX12_goesDown_24 : decode cX12_goesDown 24 = .ok (.getfield 9, 3) := by decide +kernel
theorem dX12_goesDown_27 : decode cX12_goesDown 27 = .ok (.iload_n 2, 1) := by decide +kernel
theorem dX12_goesDown_28 : decode cX12_goesDown 28 = .ok (.bipush 6, 2) := by decide +kernel
theorem dX12_goesDown_30 : decode cX12_goesDown 30 = .ok (.iadd, 1) := by decide +kernel
theorem dX12_goesDown_31 : decode cX12_goesDown 31 = .ok (.iconst 2, 1) := by decide +kernel
theorem dX12_goesDown_32 : decode cX12_goesDown 32 = .ok (.iastore, 1) := by decide +kernel
theorem dX12_goesDown_33 : decode cX12_goesDown 33 = .ok (.aload_n 0, 1) := by decide +kernel
theorem dX12_goesDown_34 : decode cX12_goesDown 34 = .ok (.getfield 9, 3) := by decide +kernel
theorem dX12_goesDown_37 : decode cX12_goesDown 37 = .ok (.iload_n 2, 1) := by decide +kernel
theorem dX12_goesDown_38 : decode cX12_goesDown 38 = .ok (.bipush 8, 2) := by decide +kernel
theorem dX12_goesDown_40 : decode cX12_goesDown 40 = .ok (.iadd, 1) := by decide +kernel
theorem dX12_goesDown_41 : decode cX12_goesDown 41 = .ok (.aload_n 0, 1) := by decide +kernel
theorem dX12_goesDown_42 : decode cX12_goesDown 42 = .ok (.getfield 9, 3) := by decide +kernel
theorem dX12_goesDown_45 : decode cX12_goesDown 45 = .ok (.iconst 0, 1) := by decide +kernel
theorem dX12_goesDown_46 : decode cX12_goesDown 46 = .ok (.iaload, 1) := by decide +kernel
theorem dX12_goesDown_47 : decode cX12_goesDown 47 = .ok (.iastore, 1) := by decide +kernel
theorem dX12_goesDown_48 : decode cX12_goesDown 48 = .ok (.aload_n 0, 1) := by decide +kernel
theorem dX12_goesDown_49 : decode cX12_goesDown 49 = .ok (.aload_n 0, 1) := by decide +kernel
theorem dX12_goesDown_50 : decode cX12_goesDown 50 = .ok (.getfield 9, 3) := by decide +kernel
theorem dX12_goesDown_53 : decode cX12_goesDown 53 = .ok (.bipush 18, 2) := by decide +kernel
theorem dX12_goesDown_55 : decode cX12_goesDown 55 = .ok (.iaload, 1) := by decide +kernel
theorem dX12_goesDown_56 : decode cX12_goesDown 56 = .ok (.iconst 2, 1) := by decide +kernel
theorem dX12_goesDown_57 : decode cX12_goesDown 57 = .ok (.invokevirtual 180, 3) := by decide +kernel
theorem dX12_goesDown_60 : decode cX12_goesDown 60 = .ok (.aload_n 0, 1) := by decide +kernel
theorem dX12_goesDown_61 : decode cX12_goesDown 61 = .ok (.getfield 9, 3) := by decide +kernel
theorem dX12_goesDown_64 : decode cX12_goesDown 64 = .ok (.bipush 90, 2) := by decide +kernel
theorem dX12_goesDown_66 : decode cX12_goesDown 66 = .ok (.iconst 4, 1) := by decide +kernel
theorem dX12_goesDown_67 : decode cX12_goesDown 67 = .ok (.aload_n 0, 1) := by decide +kernel
theorem dX12_goesDown_68 : decode cX12_goesDown 68 = .ok (.iload_n 1, 1) := by decide +kernel
theorem dX12_goesDown_69 : decode cX12_goesDown 69 = .ok (.iconst 0, 1) := by decide +kernel
theorem dX12_goesDown_70 : decode cX12_goesDown 70 = .ok (.invokevirtual 67, 3) := by decide +kernel
theorem dX12_goesDown_73 : decode cX12_goesDown 73 = .ok (.imul, 1) := by decide +kernel
theorem dX12_goesDown_74 : decode cX12_goesDown 74 = .ok (.iadd, 1) := by decide +kernel
theorem dX12_goesDown_75 : decode cX12_goesDown 75 = .ok (.iconst 3, 1) := by decide +kernel
theorem dX12_goesDown_76 : decode cX12_goesDown 76 = .ok (.iadd, 1) := by decide +kernel
theorem dX12_goesDown_77 : decode cX12_goesDown 77 = .ok (.dup2, 1) := by decide +kernel
theorem dX12_goesDown_78 : decode cX12_goesDown 78 = .ok (.iaload, 1) := by decide +kernel
theorem dX12_goesDown_79 : decode cX12_goesDown 79 = .ok (.aload_n 0, 1) := by decide +kernel
theorem dX12_goesDown_80 : decode cX12_goesDown 80 = .ok (.getfield 9, 3) := by decide +kernel
theorem dX12_goesDown_83 : decode cX12_goesDown 83 = .ok (.iload_n 2, 1) := by decide +kernel
theorem dX12_goesDown_84 : decode cX12_goesDown 84 = .ok (.bipush 9, 2) := by decide +kernel
theorem dX12_goesDown_86 : decode cX12_goesDown 86 = .ok (.iadd, 1) := by decide +kernel
theorem dX12_goesDown_87 : decode cX12_goesDown 87 = .ok (.iaload, 1) := by decide +kernel
theorem dX12_goesDown_88 : decode cX12_goesDown 88 = .ok (.iadd, 1) := by decide +kernel
theorem dX12_goesDown_89 : decode cX12_goesDown 89 = .ok (.iastore, 1) := by decide +kernel
theorem dX12_goesDown_90 : decode cX12_goesDown 90 = .ok (.aload_n 0, 1) := by decide +kernel
theorem dX12_goesDown_91 : decode cX12_goesDown 91 = .ok (.getfield 9, 3) := by decide +kernel
theorem dX12_goesDown_94 : decode cX12_goesDown 94 = .ok (.bipush 90, 2) := by decide +kernel
theorem dX12_goesDown_96 : decode cX12_goesDown 96 = .ok (.iconst 4, 1) := by decide +kernel
theorem dX12_goesDown_97 : decode cX12_goesDown 97 = .ok (.aload_n 0, 1) := by decide +kernel
theorem dX12_goesDown_98 : decode cX12_goesDown 98 = .ok (.iload_n 1, 1) := by decide +kernel
theorem dX12_goesDown_99 : decode cX12_goesDown 99 = .ok (.iconst 0, 1) := by decide +kernel
theorem dX12_goesDown_100 : decode cX12_goesDown 100 = .ok (.invokevirtual 67, 3) := by decide +kernel
theorem dX12_goesDown_103 : decode cX12_goesDown 103 = .ok (.imul, 1) := by decide +kernel
theorem dX12_goesDown_104 : decode cX12_goesDown 104 = .ok (.iadd, 1) := by decide +kernel
theorem dX12_goesDown_105 : decode cX12_goesDown 105 = .ok (.iconst 2, 1) := by decide +kernel
theorem dX12_goesDown_106 : decode cX12_goesDown 106 = .ok (.iadd, 1) := by decide +kernel
theorem dX12_goesDown_107 : decode cX12_goesDown 107 = .ok (.aload_n 0, 1) := by decide +kernel
theorem dX12_goesDown_108 : decode cX12_goesDown 108 = .ok (.getfield 9, 3) := by decide +kernel
theorem dX12_goesDown_111 : decode cX12_goesDown 111 = .ok (.iconst 0, 1) := by decide +kernel
theorem dX12_goesDown_112 : decode cX12_goesDown 112 = .ok (.iaload, 1) := by decide +kernel
theorem dX12_goesDown_113 : decode cX12_goesDown 113 = .ok (.iastore, 1) := by decide +kernel
theorem dX12_goesDown_114 : decode cX12_goesDown 114 = .ok (.aload_n 0, 1) := by decide +kernel
theorem dX12_goesDown_115 : decode cX12_goesDown 115 = .ok (.iload_n 1, 1) := by decide +kernel
theorem dX12_goesDown_116 : decode cX12_goesDown 116 = .ok (.iconst 1, 1) := by decide +kernel
theorem dX12_goesDown_117 : decode cX12_goesDown 117 = .ok (.invokevirtual 67, 3) := by decide +kernel
theorem dX12_goesDown_120 : decode cX12_goesDown 120 = .ok (.ifCond .lt 27, 3) := by decide +kernel
theorem dX12_goesDown_123 : decode cX12_goesDown 123 = .ok (.aload_n 0, 1) := by decide +kernel
theorem dX12_goesDown_124 : decode cX12_goesDown 124 = .ok (.getfield 9, 3) := by decide +kernel
theorem dX12_goesDown_127 : decode cX12_goesDown 127 = .ok (.bipush 90, 2) := by decide +kernel
theorem dX12_goesDown_129 : decode cX12_goesDown 129 = .ok (.iconst 4, 1) := by decide +kernel
theorem dX12_goesDown_130 : decode cX12_goesDown 130 = .ok (.aload_n 0, 1) := by decide +kernel
theorem dX12_goesDown_131 : decode cX12_goesDown 131 = .ok (.iload_n 1, 1) := by decide +kernel
theorem dX12_goesDown_132 : decode cX12_goesDown 132 = .ok (.iconst 1, 1) := by decide +kernel
theorem dX12_goesDown_133 : decode cX12_goesDown 133 = .ok (.invokevirtual 67, 3) := by decide +kernel
theorem dX12_goesDown_136 : decode cX12_goesDown 136 = .ok (.imul, 1) := by decide +kernel
theorem dX12_goesDown_137 : decode cX12_goesDown 137 = .ok (.iadd, 1) := by decide +kernel
theorem dX12_goesDown_138 : decode cX12_goesDown 138 = .ok (.iconst 2, 1) := by decide +kernel
theorem dX12_goesDown_139 : decode cX12_goesDown 139 = .ok (.iadd, 1) := by decide +kernel
theorem dX12_goesDown_140 : decode cX12_goesDown 140 = .ok (.aload_n 0, 1) := by decide +kernel
theorem dX12_goesDown_141 : decode cX12_goesDown 141 = .ok (.getfield 9, 3) := by decide +kernel
theorem dX12_goesDown_144 : decode cX12_goesDown 144 = .ok (.iconst 0, 1) := by decide +kernel
theorem dX12_goesDown_145 : decode cX12_goesDown 145 = .ok (.iaload, 1) := by decide +kernel
theorem dX12_goesDown_146 : decode cX12_goesDown 146 = .ok (.iastore, 1) := by decide +kernel
theorem dX12_goesDown_147 : decode cX12_goesDown 147 = .ok (.return_, 1) := by decide +kernel
theorem dX12_goesUp_0 : decode cX12_goesUp 0 = .ok (.aload_n 0, 1) := by decide +kernel
theorem dX12_goesUp_1 : decode cX12_goesUp 1 = .ok (.iload_n 1, 1) := by decide +kernel
theorem dX12_goesUp_2 : decode cX12_goesUp 2 = .ok (.iconst 3, 1) := by decide +kernel
theorem dX12_goesUp_3 : decode cX12_goesUp 3 = .ok (.invokevirtual 67, 3) := by decide +kernel
theorem dX12_goesUp_6 : decode cX12_goesUp 6 = .ok (.istore_n 2, 1) := by decide +kernel
theorem dX12_goesUp_7 : decode cX12_goesUp 7 = .ok (.aload_n 0, 1) := by decide +kernel
theorem dX12_goesUp_8 : decode cX12_goesUp 8 = .ok (.iload_n 1, 1) := by decide +kernel
theorem dX12_goesUp_9 : decode cX12_goesUp 9 = .ok (.invokevirtual 153, 3) := by decide +kernel
theorem dX12_goesUp_12 : decode cX12_goesUp 12 = .ok (.istore_n 3, 1) := by decide +kernel
theorem dX12_goesUp_13 : decode cX12_goesUp 13 = .ok (.aload_n 0, 1) := by decide +kernel
theorem dX12_goesUp_14 : decode cX12_goesUp 14 = .ok (.aload_n 0, 1) := by decide +kernel
theorem dX12_goesUp_15 : decode cX12_goesUp 15 = .ok (.iload_n 1, 1) := by decide +kernel
theorem dX12_goesUp_16 : decode cX12_goesUp 16 = .ok (.invokevirtual 150, 3) := by decide +kernel
theorem dX12_goesUp_19 : decode cX12_goesUp 19 = .ok (.iload_n 3, 1) := by decide +kernel
theorem dX12_goesUp_20 : decode cX12_goesUp 20 = .ok (.invokevirtual 180, 3) := by decide +kernel
theorem dX12_goesUp_23 : decode cX12_goesUp 23 = .ok (.aload_n 0, 1) := by decide +kernel
theorem dX12_goesUp_24 : decode cX12_goesUp 24 = .ok (.getfield 9, 3) := by decide +kernel
theorem dX12_goesUp_27 : decode cX12_goesUp 27 = .ok (.sipush 146, 3) := by decide +kernel
theorem dX12_goesUp_30 : decode cX12_goesUp 30 = .ok (.bipush 10, 2) := by decide +kernel
theorem dX12_goesUp_32 : decode cX12_goesUp 32 = .ok (.iload_n 1, 1) := by decide +kernel
theorem dX12_goesUp_33 : decode cX12_goesUp 33 = .ok (.imul, 1) := by decide +kernel
theorem dX12_goesUp_34 : decode cX12_goesUp 34 = .ok (.iadd, 1) := by decide +kernel
theorem dX12_goesUp_35 : decode cX12_goesUp 35 = .ok (.bipush 6, 2) := by decide +kernel
theorem dX12_goesUp_37 : decode cX12_goesUp 37 = .ok (.iadd, 1) := by decide +kernel
theorem dX12_goesUp_38 : decode cX12_goesUp 38 = .ok (.iconst 1, 1) := by decide +kernel
theorem dX12_goesUp_39 : decode cX12_goesUp 39 = .ok (.iastore, 1) := by decide +kernel
theorem dX12_goesUp_40 : decode cX12_goesUp 40 = .ok (.aload_n 0, 1) := by decide +kernel
theorem dX12_goesUp_41 : decode cX12_goesUp 41 = .ok (.getfield 9, 3) := by decide +kernel
theorem dX12_goesUp_44 : decode cX12_goesUp 44 = .ok (.sipush 146, 3) := by decide +kernel
theorem dX12_goesUp_47 : decode cX12_goesUp 47 = .ok (.bipush 10, 2) := by decide +kernel
theorem dX12_goesUp_49 : decode cX12_goesUp 49 = .ok (.iload_n 1, 1) := by decide +kernel
theorem dX12_goesUp_50 : decode cX12_goesUp 50 = .ok (.imul, 1) := by decide +kernel
theorem dX12_goesUp_51 : decode cX12_goesUp 51 = .ok (.iadd, 1) := by decide +kernel
theorem dX12_goesUp_52 : decode cX12_goesUp 52 = .ok (.bipush 7, 2) := by decide +kernel
theorem dX12_goesUp_54 : decode cX12_goesUp 54 = .ok (.iadd, 1) := by decide +kernel
theorem dX12_goesUp_55 : decode cX12_goesUp 55 = .ok (.aload_n 0, 1) := by decide +kernel
theorem dX12_goesUp_56 : decode cX12_goesUp 56 = .ok (.getfield 9, 3) := by decide +kernel
theorem dX12_goesUp_59 : decode cX12_goesUp 59 = .ok (.iconst 0, 1) := by decide +kernel
theorem dX12_goesUp_60 : decode cX12_goesUp 60 = .ok (.iaload, 1) := by decide +kernel
theorem dX12_goesUp_61 : decode cX12_goesUp 61 = .ok (.iastore, 1) := by decide +kernel
theorem dX12_goesUp_62 : decode cX12_goesUp 62 = .ok (.iload_n 2, 1) := by decide +kernel
theorem dX12_goesUp_63 : decode cX12_goesUp 63 = .ok (.iconst 4, 1) := by decide +kernel
theorem dX12_goesUp_64 : decode cX12_goesUp 64 = .ok (.if_icmp .ne 4, 3) := by decide +kernel
theorem dX12_goesUp_67 : decode cX12_goesUp 67 = .ok (.return_, 1) := by decide +kernel
theorem dX12_goesUp_68 : decode cX12_goesUp 68 = .ok (.iload_n 2, 1) := by decide +kernel
theorem dX12_goesUp_69 : decode cX12_goesUp 69 = .ok (.iconst 1, 1) := by decide +kernel
theorem dX12_goesUp_70 : decode cX12_goesUp 70 = .ok (.invokestatic 123, 3) := by decide +kernel
theorem dX12_goesUp_73 : decode cX12_goesUp 73 = .ok (.ifCond .ne 26, 3) := by decide +kernel
theorem dX12_goesUp_76 : decode cX12_goesUp 76 = .ok (.aload_n 0, 1) := by decide +kernel
theorem dX12_goesUp_77 : decode cX12_goesUp 77 = .ok (.getfield 9, 3) := by decide +kernel
theorem dX12_goesUp_80 : decode cX12_goesUp 80 = .ok (.bipush 30, 2) := by decide +kernel
theorem dX12_goesUp_82 : decode cX12_goesUp 82 = .ok (.aload_n 0, 1) := by decide +kernel
theorem dX12_goesUp_83 : decode cX12_goesUp 83 = .ok (.invokevirtual 133, 3) := by decide +kernel
theorem dX12_goesUp_86 : decode cX12_goesUp 86 = .ok (.iadd, 1) := by decide +kernel
theorem dX12_goesUp_87 : decode cX12_goesUp 87 = .ok (.aload_n 0, 1) := by decide +kernel
theorem dX12_goesUp_88 : decode cX12_goesUp 88 = .ok (.getfield 9, 3) := by decide +kernel
theorem dX12_goesUp_91 : decode cX12_goesUp 91 = .ok (.iconst 0, 1) := by decide +kernel
theorem dX12_goesUp_92 : decode cX12_goesUp 92 = .ok (.iaload, 1) := by decide +kernel
theorem dX12_goesUp_93 : decode cX12_goesUp 93 = .ok (.iconst 2, 1) := by decide +kernel
theorem dX12_goesUp_94 : decode cX12_goesUp 94 = .ok (.iload_n 3, 1) := by decide +kernel
theorem dX12_goesUp_95 : decode cX12_goesUp 95 = .ok (.imul, 1) := by decide +kernel
theorem dX12_goesUp_96 : decode cX12_goesUp 96 = .ok (.iadd, 1) := by decide +kernel
theorem dX12_goesUp_97 : decode cX12_goesUp 97 = .ok (.iastore, 1) := by decide +kernel
theorem dX12_goesUp_98 : decode cX12_goesUp 98 = .ok (.return_, 1) := by decide +kernel
theorem dX12_goesUp_99 : decode cX12_goesUp 99 = .ok (.aload_n 0, 1) := by decide +kernel
theorem dX12_goesUp_100 : decode cX12_goesUp 100 = .ok (.iload_n 2, 1) := by decide +kernel
theorem dX12_goesUp_101 : decode cX12_goesUp 101 = .ok (.invokevirtual 130, 3) := by decide +kernel
theorem dX12_goesUp_104 : decode cX12_goesUp 104 = .ok (.istore 4, 2) := by decide +kernel
theorem dX12_goesUp_106 : decode cX12_goesUp 106 = .ok (.aload_n 0, 1) := by decide +kernel
theorem dX12_goesUp_107 : decode cX12_goesUp 107 = .ok (.getfield 9, 3) := by decide +kernel
theorem dX12_goesUp_110 : decode cX12_goesUp 110 = .ok (.iload 4, 2) := by decide +kernel
theorem dX12_goesUp_112 : decode cX12_goesUp 112 = .ok (.iconst 0, 1) := by decide +kernel
theorem dX12_goesUp_113 : decode cX12_goesUp 113 = .ok (.invokestatic 92, 3) := by decide +kernel
theorem dX12_goesUp_116 : decode cX12_goesUp 116 = .ok (.iaload, 1) := by decide +kernel
theorem dX12_goesUp_117 : decode cX12_goesUp 117 = .ok (.iconst 2, 1) := by decide +kernel
theorem dX12_goesUp_118 : decode cX12_goesUp 118 = .ok (.if_icmp .ne 7, 3) := by decide +kernel
theorem dX12_goesUp_121 : decode cX12_goesUp 121 = .ok (.iconst 0, 1) := by decide +kernel
theorem dX12_goesUp_122 : decode cX12_goesUp 122 = .ok (.goto 4, 3) := by decide +kernel
theorem dX12_goesUp_125 : decode cX12_goesUp 125 = .ok (.iconst 1, 1) := by decide +kernel
theorem dX12_goesUp_126 : decode cX12_goesUp 126 = .ok (.istore 5, 2) := by decide +kernel
theorem dX12_goesUp_128 : decode cX12_goesUp 128 = .ok (.aload_n 0, 1) := by decide +kernel
theorem dX12_goesUp_129 : decode cX12_goesUp 129 = .ok (.iload 4, 2) := by decide +kernel
theorem dX12_goesUp_131 : decode cX12_goesUp 131 = .ok (.iload 5, 2) := by decide +kernel
theorem dX12_goesUp_133 : decode cX12_goesUp 133 = .ok (.iconst 0, 1) := by decide +kernel
theorem dX12_goesUp_134 : decode cX12_goesUp 134 = .ok (.iconst (-1), 1) := by decide +kernel
theorem dX12_goesUp_135 : decode cX12_goesUp 135 = .ok (.invokevirtual 96, 3) := by decide +kernel
theorem dX12_goesUp_138 : decode cX12_goesUp 138 = .ok (.iload_n 2, 1) := by decide +kernel
theorem dX12_goesUp_139 : decode cX12_goesUp 139 = .ok (.iconst 3, 1) := by decide +kernel
theorem dX12_goesUp_140 : decode cX12_goesUp 140 = .ok (.if_icmp .ne 12, 3) := by decide +kernel
theorem dX12_goesUp_143 : decode cX12_goesUp 143 = .ok (.aload_n 0, 1) := by decide +kernel
theorem dX12_goesUp_144 : decode cX12_goesUp 144 = .ok (.iload 4, 2) := by decide +kernel
theorem dX12_goesUp_146 : decode cX12_goesUp 146 = .ok (.iconst 1, 1) := by decide +kernel
theorem dX12_goesUp_147 : decode cX12_goesUp 147 = .ok (.iconst 0, 1) := by decide +kernel
theorem dX12_goesUp_148 : decode cX12_goesUp 148 = .ok (.iconst (-1), 1) := by decide +kernel
theorem dX12_goesUp_149 : decode cX12_goesUp 149 = .ok (.invokevirtual 96, 3) := by decide +kernel
theorem dX12_goesUp_152 : decode cX12_goesUp 152 = .ok (.return_, 1) := by decide +kernel
theorem dX12_isFetched_0 : decode cX12_isFetched 0 = .ok (.aload_n 0, 1) := by decide +kernel
theorem dX12_isFetched_1 : decode cX12_isFetched 1 = .ok (.aload_n 0, 1) := by decide +kernel
theorem dX12_isFetched_2 : decode cX12_isFetched 2 = .ok (.getfield 9, 3) := by decide +kernel
theorem dX12_isFetched_5 : decode cX12_isFetched 5 = .ok (.bipush 19, 2) := by decide +kernel
theorem dX12_isFetched_7 : decode cX12_isFetched 7 = .ok (.iaload, 1) := by decide +kernel
theorem dX12_isFetched_8 : decode cX12_isFetched 8 = .ok (.aload_n 0, 1) := by decide +kernel
theorem dX12_isFetched_9 : decode cX12_isFetched 9 = .ok (.getfield 9, 3) := by decide +kernel
theorem dX12_isFetched_12 : decode cX12_isFetched 12 = .ok (.bipush 26, 2) := by decide +kernel
theorem dX12_isFetched_14 : decode cX12_isFetched 14 = .ok (.iaload, 1) := by decide +kernel
theorem dX12_isFetched_15 : decode cX12_isFetched 15 = .ok (.invokevirtual 180, 3) := by decide +kernel
theorem dX12_isFetched_18 : decode cX12_isFetched 18 = .ok (.iconst 0, 1) := by decide +kernel
theorem dX12_isFetched_19 : decode cX12_isFetched 19 = .ok (.istore_n 2, 1) := by decide +kernel
theorem dX12_isFetched_20 : decode cX12_isFetched 20 = .ok (.iload_n 2, 1) := by decide +kernel
theorem dX12_isFetched_21 : decode cX12_isFetched 21 = .ok (.iconst 2, 1) := by decide +kernel
theorem dX12_isFetched_22 : decode cX12_isFetched 22 = .ok (.if_icmp .ge 43, 3) := by decide +kernel
theorem dX12_isFetched_25 : decode cX12_isFetched 25 = .ok (.aload_n 0, 1) := by decide +kernel
theorem dX12_isFetched_26 : decode cX12_isFetched 26 = .ok (.getfield 9, 3) := by decide +kernel
theorem dX12_isFetched_29 : decode cX12_isFetched 29 = .ok (.iload_n 1, 1) := by decide +kernel
theorem dX12_isFetched_30 : decode cX12_isFetched 30 = .ok (.iload_n 2, 1) := by decide +kernel
theorem dX12_isFetched_31 : decode cX12_isFetched 31 = .ok (.invokestatic 92, 3) := by decide +kernel
theorem dX12_isFetched_34 : decode cX12_isFetched 34 = .ok (.iaload, 1) := by decide +kernel
theorem dX12_isFetched_35 : decode cX12_isFetched 35 = .ok (.ifCond .ne 24, 3) := by decide +kernel
theorem dX12_isFetched_38 : decode cX12_isFetched 38 = .ok (.aload_n 0, 1) := by decide +kernel
theorem dX12_isFetched_39 : decode cX12_isFetched 39 = .ok (.iload_n 1, 1) := by decide +kernel
theorem dX12_isFetched_40 : decode cX12_isFetched 40 = .ok (.iload_n 2, 1) := by decide +kernel
theorem dX12_isFetched_41 : decode cX12_isFetched 41 = .ok (.iconst 1, 1) := by decide +kernel
theorem dX12_isFetched_42 : decode cX12_isFetched 42 = .ok (.aload_n 0, 1) := by decide +kernel
theorem dX12_isFetched_43 : decode cX12_isFetched 43 = .ok (.getfield 9, 3) := by decide +kernel
theorem dX12_isFetched_46 : decode cX12_isFetched 46 = .ok (.iconst 0, 1) := by decide +kernel
theorem dX12_isFetched_47 : decode cX12_isFetched 47 = .ok (.iaload, 1) := by decide +kernel
theorem dX12_isFetched_48 : decode cX12_isFetched 48 = .ok (.aload_n 0, 1) := by decide +kernel
theorem dX12_isFetched_49 : decode cX12_isFetched 49 = .ok (.getfield 9, 3) := by decide +kernel
theorem dX12_isFetched_52 : decode cX12_isFetched 52 = .ok (.bipush 26, 2) := by decide +kernel
theorem dX12_isFetched_54 : decode cX12_isFetched 54 = .ok (.iaload, 1) := by decide +kernel
theorem dX12_isFetched_55 : decode cX12_isFetched 55 = .ok (.iadd, 1) := by decide +kernel
theorem dX12_isFetched_56 : decode cX12_isFetched 56 = .ok (.invokevirtual 96, 3) := by decide +kernel
theorem dX12_isFetched_59 : decode cX12_isFetched 59 = .ok (.iinc 2 1, 3) := by decide +kernel
theorem dX12_isFetched_62 : decode cX12_isFetched 62 = .ok (.goto (-42), 3) := by decide +kernel
theorem dX12_isFetched_65 : decode cX12_isFetched 65 = .ok (.return_, 1) := by decide +kernel
theorem dX12_opens_0 : decode cX12_opens 0 = .ok (.aload_n 0, 1) := by decide +kernel
theorem dX12_opens_1 : decode cX12_opens 1 = .ok (.getfield 9, 3) := by decide +kernel
theorem dX12_opens_4 : decode cX12_opens 4 = .ok (.iconst 0, 1) := by decide +kernel
theorem dX12_opens_5 : decode cX12_opens 5 = .ok (.dup2, 1) := by decide +kernel
theorem dX12_opens_6 : decode cX12_opens 6 = .ok (.iaload, 1) := by decide +kernel
theorem dX12_opens_7 : decode cX12_opens 7 = .ok (.iconst 1, 1) := by decide +kernel
theorem dX12_opens_8 : decode cX12_opens 8 = .ok (.iadd, 1) := by decide +kernel
theorem dX12_opens_9 : decode cX12_opens 9 = .ok (.iastore, 1) := by decide +kernel
theorem dX12_opens_10 : decode cX12_opens 10 = .ok (.iconst 0, 1) := by decide +kernel
theorem dX12_opens_11 : decode cX12_opens 11 = .ok (.istore_n 1, 1) := by decide +kernel
theorem dX12_opens_12 : decode cX12_opens 12 = .ok (.iload_n 1, 1) := by decide +kernel
theorem dX12_opens_13 : decode cX12_opens 13 = .ok (.aload_n 0, 1) := by decide +kernel
theorem dX12_opens_14 : decode cX12_opens 14 = .ok (.getfield 9, 3) := by decide +kernel
theorem dX12_opens_17 : decode cX12_opens 17 = .ok (.iconst 5, 1) := by decide +kernel
theorem dX12_opens_18 : decode cX12_opens 18 = .ok (.iaload, 1) := by decide +kernel
theorem dX12_opens_19 : decode cX12_opens 19 = .ok (.if_icmp .ge 81, 3) := by decide +kernel
theorem dX12_opens_22 : decode cX12_opens 22 = .ok (.iconst 0, 1) := by decide +kernel
theorem dX12_opens_23 : decode cX12_opens 23 = .ok (.istore_n 2, 1) := by decide +kernel
theorem dX12_opens_24 : decode cX12_opens 24 = .ok (.iload_n 2, 1) := by decide +kernel
theorem dX12_opens_25 : decode cX12_opens 25 = .ok (.iconst 2, 1) := by decide +kernel
theorem dX12_opens_26 : decode cX12_opens 26 = .ok (.if_icmp .ge 68, 3) := by decide +kernel
theorem dX12_opens_29 : decode cX12_opens 29 = .ok (.aload_n 0, 1) := by decide +kernel
theorem dX12_opens_30 : decode cX12_opens 30 = .ok (.getfield 9, 3) := by decide +kernel
theorem dX12_opens_33 : decode cX12_opens 33 = .ok (.iload_n 1, 1) := by decide +kernel
theorem dX12_opens_34 : decode cX12_opens 34 = .ok (.iload_n 2, 1) := by decide +kernel
theorem dX12_opens_35 : decode cX12_opens 35 = .ok (.invokestatic 92, 3) := by decide +kernel
theorem dX12_opens_38 : decode cX12_opens 38 = .ok (.iaload, 1) := by decide +kernel
theorem dX12_opens_39 : decode cX12_opens 39 = .ok (.istore_n 3, 1) := by decide +kernel
theorem dX12_opens_40 : decode cX12_opens 40 = .ok (.iload_n 3, 1) := by decide +kernel
theorem dX12_opens_41 : decode cX12_opens 41 = .ok (.iconst 1, 1) := by decide +kernel
theorem dX12_opens_42 : decode cX12_opens 42 = .ok (.if_icmp .eq 8, 3) := by decide +kernel
theorem dX12_opens_45 : decode cX12_opens 45 = .ok (.iload_n 3, 1) := by decide +kernel
theorem dX12_opens_46 : decode cX12_opens 46 = .ok (.iconst 3, 1) := by decide +kernel
theorem dX12_opens_47 : decode cX12_opens 47 = .ok (.if_icmp .ne 41, 3) := by decide +kernel
theorem dX12_opens_50 : decode cX12_opens 50 = .ok (.aload_n 0, 1) := by decide +kernel
theorem dX12_opens_51 : decode cX12_opens 51 = .ok (.getfield 9, 3) := by decide +kernel
theorem dX12_opens_54 : decode cX12_opens 54 = .ok (.iload_n 1, 1) := by decide +kernel
theorem dX12_opens_55 : decode cX12_opens 55 = .ok (.iload_n 2, 1) := by decide +kernel
theorem dX12_opens_56 : decode cX12_opens 56 = .ok (.invokestatic 92, 3) := by decide +kernel
theorem dX12_opens_59 : decode cX12_opens 59 = .ok (.iconst 1, 1) := by decide +kernel
theorem dX12_opens_60 : decode cX12_opens 60 = .ok (.iadd, 1) := by decide +kernel
theorem dX12_opens_61 : decode cX12_opens 61 = .ok (.iaload, 1) := by decide +kernel
theorem dX12_opens_62 : decode cX12_opens 62 = .ok (.aload_n 0, 1) := by decide +kernel
theorem dX12_opens_63 : decode cX12_opens 63 = .ok (.getfield 9, 3) := by decide +kernel
theorem dX12_opens_66 : decode cX12_opens 66 = .ok (.iconst 0, 1) := by decide +kernel
theorem dX12_opens_67 : decode cX12_opens 67 = .ok (.iaload, 1) := by decide +kernel
theorem dX12_opens_68 : decode cX12_opens 68 = .ok (.if_icmp .gt 20, 3) := by decide +kernel
theorem dX12_opens_71 : decode cX12_opens 71 = .ok (.aload_n 0, 1) := by decide +kernel
theorem dX12_opens_72 : decode cX12_opens 72 = .ok (.iload_n 1, 1) := by decide +kernel
theorem dX12_opens_73 : decode cX12_opens 73 = .ok (.iload_n 2, 1) := by decide +kernel
theorem dX12_opens_74 : decode cX12_opens 74 = .ok (.iload_n 3, 1) := by decide +kernel
theorem dX12_opens_75 : decode cX12_opens 75 = .ok (.iconst 1, 1) := by decide +kernel
theorem dX12_opens_76 : decode cX12_opens 76 = .ok (.if_icmp .ne 7, 3) := by decide +kernel
theorem dX12_opens_79 : decode cX12_opens 79 = .ok (.iconst 2, 1) := by decide +kernel
theorem dX12_opens_80 : decode cX12_opens 80 = .ok (.goto 4, 3) := by decide +kernel
theorem dX12_opens_83 : decode cX12_opens 83 = .ok (.iconst 0, 1) := by decide +kernel
theorem dX12_opens_84 : decode cX12_opens 84 = .ok (.iconst (-1), 1) := by decide +kernel
theorem dX12_opens_85 : decode cX12_opens 85 = .ok (.invokevirtual 96, 3) := by decide +kernel
theorem dX12_opens_88 : decode cX12_opens 88 = .ok (.iinc 2 1, 3) := by decide +kernel
theorem dX12_opens_91 : decode cX12_opens 91 = .ok (.goto (-67), 3) := by decide +kernel
theorem dX12_opens_94 : decode cX12_opens 94 = .ok (.iinc 1 1, 3) := by decide +kernel
theorem dX12_opens_97 : decode cX12_opens 97 = .ok (.goto (-85), 3) := by decide +kernel
theorem dX12_opens_100 : decode cX12_opens 100 = .ok (.iconst 0, 1) := by decide +kernel
theorem dX12_opens_101 : decode cX12_opens 101 = .ok (.istore_n 1, 1) := by decide +kernel
theorem dX12_opens_102 : decode cX12_opens 102 = .ok (.iload_n 1, 1) := by decide +kernel
theorem dX12_opens_103 : decode cX12_opens 103 = .ok (.aload_n 0, 1) := by decide +kernel
theorem dX12_opens_104 : decode cX12_opens 104 = .ok (.getfield 9, 3) := by decide +kernel
theorem dX12_opens_107 : decode cX12_opens 107 = .ok (.bipush 6, 2) := by decide +kernel
theorem dX12_opens_109 : decode cX12_opens 109 = .ok (.iaload, 1) := by decide +kernel
theorem dX12_opens_110 : decode cX12_opens 110 = .ok (.if_icmp .ge 49, 3) := by decide +kernel
theorem dX12_opens_113 : decode cX12_opens 113 = .ok (.aload_n 0, 1) := by decide +kernel
theorem dX12_opens_114 : decode cX12_opens 114 = .ok (.getfield 9, 3) := by decide +kernel
theorem dX12_opens_117 : decode cX12_opens 117 = .ok (.bipush 30, 2) := by decide +kernel
theorem dX12_opens_119 : decode cX12_opens 119 = .ok (.iload_n 1, 1) := by decide +kernel
theorem dX12_opens_120 : decode cX12_opens 120 = .ok (.iadd, 1) := by decide +kernel
theorem dX12_opens_121 : decode cX12_opens 121 = .ok (.aload_n 0, 1) := by decide +kernel
theorem dX12_opens_122 : decode cX12_opens 122 = .ok (.getfield 9, 3) := by decide +kernel
theorem dX12_opens_125 : decode cX12_opens 125 = .ok (.bipush 30, 2) := by decide +kernel
theorem dX12_opens_127 : decode cX12_opens 127 = .ok (.iload_n 1, 1) := by decide +kernel
theorem dX12_opens_128 : decode cX12_opens 128 = .ok (.iadd, 1) := by decide +kernel
theorem dX12_opens_129 : decode cX12_opens 129 = .ok (.iaload, 1) := by decide +kernel
theorem dX12_opens_130 : decode cX12_opens 130 = .ok (.aload_n 0, 1) := by decide +kernel
theorem dX12_opens_131 : decode cX12_opens 131 = .ok (.getfield 9, 3) := by decide +kernel
theorem dX12_opens_134 : decode cX12_opens 134 = .ok (.iconst 0, 1) := by decide +kernel
theorem dX12_opens_135 : decode cX12_opens 135 = .ok (.iaload, 1) := by decide +kernel
theorem dX12_opens_136 : decode cX12_opens 136 = .ok (.if_icmp .gt 7, 3) := by decide +kernel
theorem dX12_opens_139 : decode cX12_opens 139 = .ok (.iconst (-1), 1) := by decide +kernel
theorem dX12_opens_140 : decode cX12_opens 140 = .ok (.goto 12, 3) := by decide +kernel
theorem dX12_opens_143 : decode cX12_opens 143 = .ok (.aload_n 0, 1) := by decide +kernel
theorem dX12_opens_144 : decode cX12_opens 144 = .ok (.getfield 9, 3) := by decide +kernel
theorem dX12_opens_147 : decode cX12_opens 147 = .ok (.bipush 30, 2) := by decide +kernel
theorem dX12_opens_149 : decode cX12_opens 149 = .ok (.iload_n 1, 1) := by decide +kernel
theorem dX12_opens_150 : decode cX12_opens 150 = .ok (.iadd, 1) := by decide +kernel
theorem dX12_opens_151 : decode cX12_opens 151 = .ok (.iaload, 1) := by decide +kernel
theorem dX12_opens_152 : decode cX12_opens 152 = .ok (.iastore, 1) := by decide +kernel
theorem dX12_opens_153 : decode cX12_opens 153 = .ok (.iinc 1 1, 3) := by decide +kernel
theorem dX12_opens_156 : decode cX12_opens 156 = .ok (.goto (-54), 3) := by decide +kernel
theorem dX12_opens_159 : decode cX12_opens 159 = .ok (.return_, 1) := by decide +kernel
theorem dX12_goes_0 : decode cX12_goes 0 = .ok (.iconst 0, 1) := by decide +kernel
theorem dX12_goes_1 : decode cX12_goes 1 = .ok (.istore_n 1, 1) := by decide +kernel
theorem dX12_goes_2 : decode cX12_goes 2 = .ok (.aload_n 0, 1) := by decide +kernel
theorem dX12_goes_3 : decode cX12_goes 3 = .ok (.invokevirtual 165, 3) := by decide +kernel
theorem dX12_goes_6 : decode cX12_goes 6 = .ok (.istore_n 2, 1) := by decide +kernel
theorem dX12_goes_7 : decode cX12_goes 7 = .ok (.iload_n 2, 1) := by decide +kernel
theorem dX12_goes_8 : decode cX12_goes 8 = .ok (.ifCond .lt 19, 3) := by decide +kernel
theorem dX12_goes_11 : decode cX12_goes 11 = .ok (.aload_n 0, 1) := by decide +kernel
theorem dX12_goes_12 : decode cX12_goes 12 = .ok (.iload_n 2, 1) := by decide +kernel
theorem dX12_goes_13 : decode cX12_goes 13 = .ok (.invokevirtual 184, 3) := by decide +kernel
theorem dX12_goes_16 : decode cX12_goes 16 = .ok (.iinc 1 10, 3) := by decide +kernel
theorem dX12_goes_19 : decode cX12_goes 19 = .ok (.aload_n 0, 1) := by decide +kernel
theorem dX12_goes_20 : decode cX12_goes 20 = .ok (.invokevirtual 165, 3) := by decide +kernel
theorem dX12_goes_23 : decode cX12_goes 23 = .ok (.istore_n 2, 1) := by decide +kernel
theorem dX12_goes_24 : decode cX12_goes 24 = .ok (.goto (-17), 3) := by decide +kernel
theorem dX12_goes_27 : decode cX12_goes 27 = .ok (.aload_n 0, 1) := by decide +kernel
theorem dX12_goes_28 : decode cX12_goes 28 = .ok (.invokevirtual 168, 3) := by decide +kernel
theorem dX12_goes_31 : decode cX12_goes 31 = .ok (.istore_n 2, 1) := by decide +kernel
theorem dX12_goes_32 : decode cX12_goes 32 = .ok (.iload_n 2, 1) := by decide +kernel
theorem dX12_goes_33 : decode cX12_goes 33 = .ok (.ifCond .lt 11, 3) := by decide +kernel
theorem dX12_goes_36 : decode cX12_goes 36 = .ok (.aload_n 0, 1) := by decide +kernel
theorem dX12_goes_37 : decode cX12_goes 37 = .ok (.iload_n 2, 1) := by decide +kernel
theorem dX12_goes_38 : decode cX12_goes 38 = .ok (.invokevirtual 188, 3) := by decide +kernel
theorem dX12_goes_41 : decode cX12_goes 41 = .ok (.iinc 1 1, 3) := by decide +kernel
theorem dX12_goes_44 : decode cX12_goes 44 = .ok (.aload_n 0, 1) := by decide +kernel
theorem dX12_goes_45 : decode cX12_goes 45 = .ok (.invokevirtual 171, 3) := by decide +kernel
theorem dX12_goes_48 : decode cX12_goes 48 = .ok (.istore_n 3, 1) := by decide +kernel
theorem dX12_goes_49 : decode cX12_goes 49 = .ok (.iload_n 3, 1) := by decide +kernel
theorem dX12_goes_50 : decode cX12_goes 50 = .ok (.ifCond .lt 16, 3) := by decide +kernel
theorem dX12_goes_53 : decode cX12_goes 53 = .ok (.aload_n 0, 1) := by decide +kernel
theorem dX12_goes_54 : decode cX12_goes 54 = .ok (.iload_n 3, 1) := by decide +kernel
theorem dX12_goes_55 : decode cX12_goes 55 = .ok (.invokevirtual 191, 3) := by decide +kernel
theorem dX12_goes_58 : decode cX12_goes 58 = .ok (.aload_n 0, 1) := by decide +kernel
theorem dX12_goes_59 : decode cX12_goes 59 = .ok (.invokevirtual 171, 3) := by decide +kernel
theorem dX12_goes_62 : decode cX12_goes 62 = .ok (.istore_n 3, 1) := by decide +kernel
theorem dX12_goes_63 : decode cX12_goes 63 = .ok (.goto (-14), 3) := by decide +kernel
theorem dX12_goes_66 : decode cX12_goes 66 = .ok (.aload_n 0, 1) := by decide +kernel
theorem dX12_goes_67 : decode cX12_goes 67 = .ok (.invokevirtual 194, 3) := by decide +kernel
theorem dX12_goes_70 : decode cX12_goes 70 = .ok (.iload_n 1, 1) := by decide +kernel
theorem dX12_goes_71 : decode cX12_goes 71 = .ok (.ireturn, 1) := by decide +kernel
theorem dX12_run_0 : decode cX12_run 0 = .ok (.iload_n 1, 1) := by decide +kernel
theorem dX12_run_1 : decode cX12_run 1 = .ok (.iconst 1, 1) := by decide +kernel
theorem dX12_run_2 : decode cX12_run 2 = .ok (.bipush 100, 2) := by decide +kernel
theorem dX12_run_4 : decode cX12_run 4 = .ok (.invokestatic 58, 3) := by decide +kernel
theorem dX12_run_7 : decode cX12_run 7 = .ok (.ifCond .ne 10, 3) := by decide +kernel
theorem dX12_run_10 : decode cX12_run 10 = .ok (.aload_n 0, 1) := by decide +kernel
theorem dX12_run_11 : decode cX12_run 11 = .ok (.ldc 57, 2) := by decide +kernel
theorem dX12_run_13 : decode cX12_run 13 = .ok (.invokevirtual 62, 3) := by decide +kernel
theorem dX12_run_16 : decode cX12_run 16 = .ok (.ireturn, 1) := by decide +kernel
theorem dX12_run_17 : decode cX12_run 17 = .ok (.aload_n 0, 1) := by decide +kernel
theorem dX12_run_18 : decode cX12_run 18 = .ok (.getfield 9, 3) := by decide +kernel
theorem dX12_run_21 : decode cX12_run 21 = .ok (.iconst 0, 1) := by decide +kernel
theorem dX12_run_22 : decode cX12_run 22 = .ok (.iaload, 1) := by decide +kernel
theorem dX12_run_23 : decode cX12_run 23 = .ok (.iload_n 1, 1) := by decide +kernel
theorem dX12_run_24 : decode cX12_run 24 = .ok (.iadd, 1) := by decide +kernel
theorem dX12_run_25 : decode cX12_run 25 = .ok (.sipush 900, 3) := by decide +kernel
theorem dX12_run_28 : decode cX12_run 28 = .ok (.if_icmp .le 10, 3) := by decide +kernel
theorem dX12_run_31 : decode cX12_run 31 = .ok (.aload_n 0, 1) := by decide +kernel
theorem dX12_run_32 : decode cX12_run 32 = .ok (.ldc 66, 2) := by decide +kernel
theorem dX12_run_34 : decode cX12_run 34 = .ok (.invokevirtual 62, 3) := by decide +kernel
theorem dX12_run_37 : decode cX12_run 37 = .ok (.ireturn, 1) := by decide +kernel
theorem dX12_run_38 : decode cX12_run 38 = .ok (.iconst 0, 1) := by decide +kernel
theorem dX12_run_39 : decode cX12_run 39 = .ok (.istore_n 2, 1) := by decide +kernel
theorem dX12_run_40 : decode cX12_run 40 = .ok (.iload_n 2, 1) := by decide +kernel
theorem dX12_run_41 : decode cX12_run 41 = .ok (.iload_n 1, 1) := by decide +kernel
theorem dX12_run_42 : decode cX12_run 42 = .ok (.if_icmp .ge 14, 3) := by decide +kernel
theorem dX12_run_45 : decode cX12_run 45 = .ok (.aload_n 0, 1) := by decide +kernel
theorem dX12_run_46 : decode cX12_run 46 = .ok (.invokevirtual 197, 3) := by decide +kernel
theorem dX12_run_49 : decode cX12_run 49 = .ok (.istore_n 3, 1) := by decide +kernel
theorem dX12_run_50 : decode cX12_run 50 = .ok (.iinc 2 1, 3) := by decide +kernel
theorem dX12_run_53 : decode cX12_run 53 = .ok (.goto (-13), 3) := by decide +kernel
theorem dX12_run_56 : decode cX12_run 56 = .ok (.aload_n 0, 1) := by decide +kernel
theorem dX12_run_57 : decode cX12_run 57 = .ok (.getfield 9, 3) := by decide +kernel
theorem dX12_run_60 : decode cX12_run 60 = .ok (.iconst 0, 1) := by decide +kernel
theorem dX12_run_61 : decode cX12_run 61 = .ok (.iaload, 1) := by decide +kernel
theorem dX12_run_62 : decode cX12_run 62 = .ok (.ireturn, 1) := by decide +kernel
theorem dX12_copyRow_0 : decode cX12_copyRow 0 = .ok (.iconst 0, 1) := by decide +kernel
theorem dX12_copyRow_1 : decode cX12_copyRow 1 = .ok (.istore_n 2, 1) := by decide +kernel
theorem dX12_copyRow_2 : decode cX12_copyRow 2 = .ok (.iload_n 2, 1) := by decide +kernel
theorem dX12_copyRow_3 : decode cX12_copyRow 3 = .ok (.sipush 970, 3) := by decide +kernel
theorem dX12_copyRow_6 : decode cX12_copyRow 6 = .ok (.if_icmp .ge 15, 3) := by decide +kernel
theorem dX12_copyRow_9 : decode cX12_copyRow 9 = .ok (.aload_n 1, 1) := by decide +kernel
theorem dX12_copyRow_10 : decode cX12_copyRow 10 = .ok (.iload_n 2, 1) := by decide +kernel
theorem dX12_copyRow_11 : decode cX12_copyRow 11 = .ok (.aload_n 0, 1) := by decide +kernel
theorem dX12_copyRow_12 : decode cX12_copyRow 12 = .ok (.iload_n 2, 1) := by decide +kernel
theorem dX12_copyRow_13 : decode cX12_copyRow 13 = .ok (.iaload, 1) := by decide +kernel
theorem dX12_copyRow_14 : decode cX12_copyRow 14 = .ok (.iastore, 1) := by decide +kernel
theorem dX12_copyRow_15 : decode cX12_copyRow 15 = .ok (.iinc 2 1, 3) := by decide +kernel
theorem dX12_copyRow_18 : decode cX12_copyRow 18 = .ok (.goto (-16), 3) := by decide +kernel
theorem dX12_copyRow_21 : decode cX12_copyRow 21 = .ok (.return_, 1) := by decide +kernel
theorem dX12_asksThat_0 : decode cX12_asksThat 0 = .ok (.iconst 0, 1) := by decide +kernel
theorem dX12_asksThat_1 : decode cX12_asksThat 1 = .ok (.istore_n 2, 1) := by decide +kernel
theorem dX12_asksThat_2 : decode cX12_asksThat 2 = .ok (.iconst 0, 1) := by decide +kernel
theorem dX12_asksThat_3 : decode cX12_asksThat 3 = .ok (.istore_n 3, 1) := by decide +kernel
theorem dX12_asksThat_4 : decode cX12_asksThat 4 = .ok (.iload_n 3, 1) := by decide +kernel
theorem dX12_asksThat_5 : decode cX12_asksThat 5 = .ok (.aload_n 0, 1) := by decide +kernel
theorem dX12_asksThat_6 : decode cX12_asksThat 6 = .ok (.getfield 9, 3) := by decide +kernel
theorem dX12_asksThat_9 : decode cX12_asksThat 9 = .ok (.bipush 7, 2) := by decide +kernel
theorem dX12_asksThat_11 : decode cX12_asksThat 11 = .ok (.iaload, 1) := by decide +kernel
theorem dX12_asksThat_12 : decode cX12_asksThat 12 = .ok (.if_icmp .ge 30, 3) := by decide +kernel
theorem dX12_asksThat_15 : decode cX12_asksThat 15 = .ok (.iload_n 2, 1) := by decide +kernel
theorem dX12_asksThat_16 : decode cX12_asksThat 16 = .ok (.aload_n 0, 1) := by decide +kernel
theorem dX12_asksThat_17 : decode cX12_asksThat 17 = .ok (.iload_n 3, 1) := by decide +kernel
theorem dX12_asksThat_18 : decode cX12_asksThat 18 = .ok (.bipush 6, 2) := by decide +kernel
theorem dX12_asksThat_20 : decode cX12_asksThat 20 = .ok (.invokevirtual 67, 3) := by decide +kernel
theorem dX12_asksThat_23 : decode cX12_asksThat 23 = .ok (.iload_n 1, 1) := by decide +kernel
theorem dX12_asksThat_24 : decode cX12_asksThat 24 = .ok (.if_icmp .ne 9, 3) := by decide +kernel
theorem dX12_asksThat_27 : decode cX12_asksThat 27 = .ok (.iconst 1, 1) := by decide +kernel
theorem dX12_asksThat_28 : decode cX12_asksThat 28 = .ok (.iload_n 3, 1) := by decide +kernel
theorem dX12_asksThat_29 : decode cX12_asksThat 29 = .ok (.ishl, 1) := by decide +kernel
theorem dX12_asksThat_30 : decode cX12_asksThat 30 = .ok (.goto 4, 3) := by decide +kernel
theorem dX12_asksThat_33 : decode cX12_asksThat 33 = .ok (.iconst 0, 1) := by decide +kernel
theorem dX12_asksThat_34 : decode cX12_asksThat 34 = .ok (.ior, 1) := by decide +kernel
theorem dX12_asksThat_35 : decode cX12_asksThat 35 = .ok (.istore_n 2, 1) := by decide +kernel
theorem dX12_asksThat_36 : decode cX12_asksThat 36 = .ok (.iinc 3 1, 3) := by decide +kernel
theorem dX12_asksThat_39 : decode cX12_asksThat 39 = .ok (.goto (-35), 3) := by decide +kernel
theorem dX12_asksThat_42 : decode cX12_asksThat 42 = .ok (.iload_n 2, 1) := by decide +kernel
theorem dX12_asksThat_43 : decode cX12_asksThat 43 = .ok (.ireturn, 1) := by decide +kernel
theorem dX12_goBeside_0 : decode cX12_goBeside 0 = .ok (.aload_n 0, 1) := by decide +kernel
theorem dX12_goBeside_1 : decode cX12_goBeside 1 = .ok (.getfield 9, 3) := by decide +kernel
theorem dX12_goBeside_4 : decode cX12_goBeside 4 = .ok (.aload_n 0, 1) := by decide +kernel
theorem dX12_goBeside_5 : decode cX12_goBeside 5 = .ok (.getfield 16, 3) := by decide +kernel
theorem dX12_goBeside_8 : decode cX12_goBeside 8 = .ok (.invokestatic 200, 3) := by decide +kernel
theorem dX12_goBeside_11 : decode cX12_goBeside 11 = .ok (.aload_n 0, 1) := by decide +kernel
theorem dX12_goBeside_12 : decode cX12_goBeside 12 = .ok (.iconst 0, 1) := by decide +kernel
theorem dX12_goBeside_13 : decode cX12_goBeside 13 = .ok (.putfield 204, 3) := by decide +kernel
theorem dX12_goBeside_16 : decode cX12_goBeside 16 = .ok (.aload_n 0, 1) := by decide +kernel
theorem dX12_goBeside_17 : decode cX12_goBeside 17 = .ok (.iconst 0, 1) := by decide +kernel
theorem dX12_goBeside_18 : decode cX12_goBeside 18 = .ok (.putfield 208, 3) := by decide +kernel
theorem dX12_goBeside_21 : decode cX12_goBeside 21 = .ok (.iconst 0, 1) := by decide +kernel
theorem dX12_goBeside_22 : decode cX12_goBeside 22 = .ok (.istore_n 2, 1) := by decide +kernel
theorem dX12_goBeside_23 : decode cX12_goBeside 23 = .ok (.iload_n 2, 1) := by decide +kernel
theorem dX12_goBeside_24 : decode cX12_goBeside 24 = .ok (.iload_n 1, 1) := by decide +kernel
theorem dX12_goBeside_25 : decode cX12_goBeside 25 = .ok (.if_icmp .ge 40, 3) := by decide +kernel
theorem dX12_goBeside_28 : decode cX12_goBeside 28 = .ok (.aload_n 0, 1) := by decide +kernel
theorem dX12_goBeside_29 : decode cX12_goBeside 29 = .ok (.invokevirtual 197, 3) := by decide +kernel
theorem dX12_goBeside_32 : decode cX12_goBeside 32 = .ok (.istore_n 3, 1) := by decide +kernel
theorem dX12_goBeside_33 : decode cX12_goBeside 33 = .ok (.aload_n 0, 1) := by decide +kernel
theorem dX12_goBeside_34 : decode cX12_goBeside 34 = .ok (.dup, 1) := by decide +kernel
theorem dX12_goBeside_35 : decode cX12_goBeside 35 = .ok (.getfield 204, 3) := by decide +kernel
theorem dX12_goBeside_38 : decode cX12_goBeside 38 = .ok (.iload_n 3, 1) := by decide +kernel
theorem dX12_goBeside_39 : decode cX12_goBeside 39 = .ok (.bipush 10, 2) := by decide +kernel
theorem dX12_goBeside_41 : decode cX12_goBeside 41 = .ok (.irem, 1) := by decide +kernel
theorem dX12_goBeside_42 : decode cX12_goBeside 42 = .ok (.iadd, 1) := by decide +kernel
theorem dX12_goBeside_43 : decode cX12_goBeside 43 = .ok (.putfield 204, 3) := by decide +kernel
theorem dX12_goBeside_46 : decode cX12_goBeside 46 = .ok (.aload_n 0, 1) := by decide +kernel
theorem dX12_goBeside_47 : decode cX12_goBeside 47 = .ok (.dup, 1) := by decide +kernel
theorem dX12_goBeside_48 : decode cX12_goBeside 48 = .ok (.getfield 208, 3) := by decide +kernel
theorem dX12_goBeside_51 : decode cX12_goBeside 51 = .ok (.iload_n 3, 1) := by decide +kernel
theorem dX12_goBeside_52 : decode cX12_goBeside 52 = .ok (.bipush 10, 2) := by decide +kernel
theorem dX12_goBeside_54 : decode cX12_goBeside 54 = .ok (.idiv, 1) := by decide +kernel
theorem dX12_goBeside_55 : decode cX12_goBeside 55 = .ok (.iadd, 1) := by decide +kernel
theorem dX12_goBeside_56 : decode cX12_goBeside 56 = .ok (.putfield 208, 3) := by decide +kernel
theorem dX12_goBeside_59 : decode cX12_goBeside 59 = .ok (.iinc 2 1, 3) := by decide +kernel
theorem dX12_goBeside_62 : decode cX12_goBeside 62 = .ok (.goto (-39), 3) := by decide +kernel
theorem dX12_goBeside_65 : decode cX12_goBeside 65 = .ok (.aload_n 0, 1) := by decide +kernel
theorem dX12_goBeside_66 : decode cX12_goBeside 66 = .ok (.aload_n 0, 1) := by decide +kernel
theorem dX12_goBeside_67 : decode cX12_goBeside 67 = .ok (.iconst 1, 1) := by decide +kernel
theorem dX12_goBeside_68 : decode cX12_goBeside 68 = .ok (.invokevirtual 211, 3) := by decide +kernel
theorem dX12_goBeside_71 : decode cX12_goBeside 71 = .ok (.putfield 214, 3) := by decide +kernel
theorem dX12_goBeside_74 : decode cX12_goBeside 74 = .ok (.aload_n 0, 1) := by decide +kernel
theorem dX12_goBeside_75 : decode cX12_goBeside 75 = .ok (.aload_n 0, 1) := by decide +kernel
theorem dX12_goBeside_76 : decode cX12_goBeside 76 = .ok (.iconst 0, 1) := by decide +kernel
theorem dX12_goBeside_77 : decode cX12_goBeside 77 = .ok (.invokevirtual 211, 3) := by decide +kernel
theorem dX12_goBeside_80 : decode cX12_goBeside 80 = .ok (.putfield 217, 3) := by decide +kernel
theorem dX12_goBeside_83 : decode cX12_goBeside 83 = .ok (.aload_n 0, 1) := by decide +kernel
theorem dX12_goBeside_84 : decode cX12_goBeside 84 = .ok (.getfield 16, 3) := by decide +kernel
theorem dX12_goBeside_87 : decode cX12_goBeside 87 = .ok (.aload_n 0, 1) := by decide +kernel
theorem dX12_goBeside_88 : decode cX12_goBeside 88 = .ok (.getfield 9, 3) := by decide +kernel
theorem dX12_goBeside_91 : decode cX12_goBeside 91 = .ok (.invokestatic 200, 3) := by decide +kernel
theorem dX12_goBeside_94 : decode cX12_goBeside 94 = .ok (.return_, 1) := by decide +kernel
theorem dX12_ahead_0 : decode cX12_ahead 0 = .ok (.iload_n 1, 1) := by decide +kernel
theorem dX12_ahead_1 : decode cX12_ahead 1 = .ok (.iconst 0, 1) := by decide +kernel
theorem dX12_ahead_2 : decode cX12_ahead 2 = .ok (.sipush 200, 3) := by decide +kernel
theorem dX12_ahead_5 : decode cX12_ahead 5 = .ok (.invokestatic 58, 3) := by decide +kernel
theorem dX12_ahead_8 : decode cX12_ahead 8 = .ok (.ifCond .eq 12, 3) := by decide +kernel
theorem dX12_ahead_11 : decode cX12_ahead 11 = .ok (.iload_n 2, 1) := by decide +kernel
theorem dX12_ahead_12 : decode cX12_ahead 12 = .ok (.iconst 0, 1) := by decide +kernel
theorem dX12_ahead_13 : decode cX12_ahead 13 = .ok (.iconst 3, 1) := by decide +kernel
theorem dX12_ahead_14 : decode cX12_ahead 14 = .ok (.invokestatic 58, 3) := by decide +kernel
theorem dX12_ahead_17 : decode cX12_ahead 17 = .ok (.ifCond .ne 10, 3) := by decide +kernel
theorem dX12_ahead_20 : decode cX12_ahead 20 = .ok (.aload_n 0, 1) := by decide +kernel
theorem dX12_ahead_21 : decode cX12_ahead 21 = .ok (.ldc 57, 2) := by decide +kernel
theorem dX12_ahead_23 : decode cX12_ahead 23 = .ok (.invokevirtual 62, 3) := by decide +kernel
theorem dX12_ahead_26 : decode cX12_ahead 26 = .ok (.ireturn, 1) := by decide +kernel
theorem dX12_ahead_27 : decode cX12_ahead 27 = .ok (.aload_n 0, 1) := by decide +kernel
theorem dX12_ahead_28 : decode cX12_ahead 28 = .ok (.iload_n 1, 1) := by decide +kernel
theorem dX12_ahead_29 : decode cX12_ahead 29 = .ok (.invokevirtual 220, 3) := by decide +kernel
theorem dX12_ahead_32 : decode cX12_ahead 32 = .ok (.iload_n 2, 1) := by decide +kernel
theorem dX12_ahead_33 : decode cX12_ahead 33 = .ok (.ifCond .ne 10, 3) := by decide +kernel
theorem dX12_ahead_36 : decode cX12_ahead 36 = .ok (.aload_n 0, 1) := by decide +kernel
theorem dX12_ahead_37 : decode cX12_ahead 37 = .ok (.getfield 204, 3) := by decide +kernel
theorem dX12_ahead_40 : decode cX12_ahead 40 = .ok (.goto 31, 3) := by decide +kernel
theorem dX12_ahead_43 : decode cX12_ahead 43 = .ok (.iload_n 2, 1) := by decide +kernel
theorem dX12_ahead_44 : decode cX12_ahead 44 = .ok (.iconst 1, 1) := by decide +kernel
theorem dX12_ahead_45 : decode cX12_ahead 45 = .ok (.if_icmp .ne 10, 3) := by decide +kernel
theorem dX12_ahead_48 : decode cX12_ahead 48 = .ok (.aload_n 0, 1) := by decide +kernel
theorem dX12_ahead_49 : decode cX12_ahead 49 = .ok (.getfield 208, 3) := by decide +kernel
theorem dX12_ahead_52 : decode cX12_ahead 52 = .ok (.goto 19, 3) := by decide +kernel
theorem dX12_ahead_55 : decode cX12_ahead 55 = .ok (.iload_n 2, 1) := by decide +kernel
theorem dX12_ahead_56 : decode cX12_ahead 56 = .ok (.iconst 2, 1) := by decide +kernel
theorem dX12_ahead_57 : decode cX12_ahead 57 = .ok (.if_icmp .ne 10, 3) := by decide +kernel
theorem dX12_ahead_60 : decode cX12_ahead 60 = .ok (.aload_n 0, 1) := by decide +kernel
theorem dX12_ahead_61 : decode cX12_ahead 61 = .ok (.getfield 214, 3) := by decide +kernel
theorem dX12_ahead_64 : decode cX12_ahead 64 = .ok (.goto 7, 3) := by decide +kernel
theorem dX12_ahead_67 : decode cX12_ahead 67 = .ok (.aload_n 0, 1) := by decide +kernel
theorem dX12_ahead_68 : decode cX12_ahead 68 = .ok (.getfield 217, 3) := by decide +kernel
theorem dX12_ahead_71 : decode cX12_ahead 71 = .ok (.ireturn, 1) := by decide +kernel
theorem dX12_late_0 : decode cX12_late 0 = .ok (.iload_n 1, 1) := by decide +kernel
theorem dX12_late_1 : decode cX12_late 1 = .ok (.aload_n 0, 1) := by decide +kernel
theorem dX12_late_2 : decode cX12_late 2 = .ok (.getfield 9, 3) := by decide +kernel
theorem dX12_late_5 : decode cX12_late 5 = .ok (.iconst 0, 1) := by decide +kernel
theorem dX12_late_6 : decode cX12_late 6 = .ok (.iaload, 1) := by decide +kernel
theorem dX12_late_7 : decode cX12_late 7 = .ok (.aload_n 0, 1) := by decide +kernel
theorem dX12_late_8 : decode cX12_late 8 = .ok (.getfield 9, 3) := by decide +kernel
theorem dX12_late_11 : decode cX12_late 11 = .ok (.iconst 0, 1) := by decide +kernel
theorem dX12_late_12 : decode cX12_late 12 = .ok (.iaload, 1) := by decide +kernel
theorem dX12_late_13 : decode cX12_late 13 = .ok (.sipush 200, 3) := by decide +kernel
theorem dX12_late_16 : decode cX12_late 16 = .ok (.iadd, 1) := by decide +kernel
theorem dX12_late_17 : decode cX12_late 17 = .ok (.invokestatic 58, 3) := by decide +kernel
theorem dX12_late_20 : decode cX12_late 20 = .ok (.ifCond .ne 10, 3) := by decide +kernel
theorem dX12_late_23 : decode cX12_late 23 = .ok (.aload_n 0, 1) := by decide +kernel
theorem dX12_late_24 : decode cX12_late 24 = .ok (.ldc 57, 2) := by decide +kernel
theorem dX12_late_26 : decode cX12_late 26 = .ok (.invokevirtual 62, 3) := by decide +kernel
theorem dX12_late_29 : decode cX12_late 29 = .ok (.ireturn, 1) := by decide +kernel
theorem dX12_late_30 : decode cX12_late 30 = .ok (.aload_n 0, 1) := by decide +kernel
theorem dX12_late_31 : decode cX12_late 31 = .ok (.iload_n 1, 1) := by decide +kernel
theorem dX12_late_32 : decode cX12_late 32 = .ok (.aload_n 0, 1) := by decide +kernel
theorem dX12_late_33 : decode cX12_late 33 = .ok (.getfield 9, 3) := by decide +kernel
theorem dX12_late_36 : decode cX12_late 36 = .ok (.iconst 0, 1) := by decide +kernel
theorem dX12_late_37 : decode cX12_late 37 = .ok (.iaload, 1) := by decide +kernel
theorem dX12_late_38 : decode cX12_late 38 = .ok (.isub, 1) := by decide +kernel
theorem dX12_late_39 : decode cX12_late 39 = .ok (.iconst 1, 1) := by decide +kernel
theorem dX12_late_40 : decode cX12_late 40 = .ok (.iadd, 1) := by decide +kernel
theorem dX12_late_41 : decode cX12_late 41 = .ok (.invokevirtual 220, 3) := by decide +kernel
theorem dX12_late_44 : decode cX12_late 44 = .ok (.aload_n 0, 1) := by decide +kernel
theorem dX12_late_45 : decode cX12_late 45 = .ok (.getfield 217, 3) := by decide +kernel
theorem dX12_late_48 : decode cX12_late 48 = .ok (.ireturn, 1) := by decide +kernel
theorem dX12_feed_0 : decode cX12_feed 0 = .ok (.iload_n 2, 1) := by decide +kernel
theorem dX12_feed_1 : decode cX12_feed 1 = .ok (.iconst 1, 1) := by decide +kernel
theorem dX12_feed_2 : decode cX12_feed 2 = .ok (.iconst 4, 1) := by decide +kernel
theorem dX12_feed_3 : decode cX12_feed 3 = .ok (.invokestatic 58, 3) := by decide +kernel
theorem dX12_feed_6 : decode cX12_feed 6 = .ok (.ifCond .ne 10, 3) := by decide +kernel
theorem dX12_feed_9 : decode cX12_feed 9 = .ok (.aload_n 0, 1) := by decide +kernel
theorem dX12_feed_10 : decode cX12_feed 10 = .ok (.ldc 57, 2) := by decide +kernel
theorem dX12_feed_12 : decode cX12_feed 12 = .ok (.invokevirtual 62, 3) := by decide +kernel
theorem dX12_feed_15 : decode cX12_feed 15 = .ok (.ireturn, 1) := by decide +kernel
theorem dX12_feed_16 : decode cX12_feed 16 = .ok (.aload_n 0, 1) := by decide +kernel
theorem dX12_feed_17 : decode cX12_feed 17 = .ok (.getfield 223, 3) := by decide +kernel
theorem dX12_feed_20 : decode cX12_feed 20 = .ok (.iload_n 2, 1) := by decide +kernel
theorem dX12_feed_21 : decode cX12_feed 21 = .ok (.iadd, 1) := by decide +kernel
theorem dX12_feed_22 : decode cX12_feed 22 = .ok (.bipush 100, 2) := by decide +kernel
theorem dX12_feed_24 : decode cX12_feed 24 = .ok (.if_icmp .le 10, 3) := by decide +kernel
theorem dX12_feed_27 : decode cX12_feed 27 = .ok (.aload_n 0, 1) := by decide +kernel
theorem dX12_feed_28 : decode cX12_feed 28 = .ok (.ldc 66, 2) := by decide +kernel
theorem dX12_feed_30 : decode cX12_feed 30 = .ok (.invokevirtual 62, 3) := by decide +kernel
theorem dX12_feed_33 : decode cX12_feed 33 = .ok (.ireturn, 1) := by decide +kernel
theorem dX12_feed_34 : decode cX12_feed 34 = .ok (.iload_n 2, 1) := by decide +kernel
theorem dX12_feed_35 : decode cX12_feed 35 = .ok (.iconst 1, 1) := by decide +kernel
theorem dX12_feed_36 : decode cX12_feed 36 = .ok (.isub, 1) := by decide +kernel
theorem dX12_feed_37 : decode cX12_feed 37 = .ok (.istore_n 3, 1) := by decide +kernel
theorem dX12_feed_38 : decode cX12_feed 38 = .ok (.iload_n 3, 1) := by decide +kernel
theorem dX12_feed_39 : decode cX12_feed 39 = .ok (.ifCond .lt 38, 3) := by decide +kernel
theorem dX12_feed_42 : decode cX12_feed 42 = .ok (.aload_n 0, 1) := by decide +kernel
theorem dX12_feed_43 : decode cX12_feed 43 = .ok (.getfield 22, 3) := by decide +kernel
theorem dX12_feed_46 : decode cX12_feed 46 = .ok (.aload_n 0, 1) := by decide +kernel
theorem dX12_feed_47 : decode cX12_feed 47 = .ok (.getfield 223, 3) := by decide +kernel
theorem dX12_feed_50 : decode cX12_feed 50 = .ok (.iload_n 1, 1) := by decide +kernel
theorem dX12_feed_51 : decode cX12_feed 51 = .ok (.bipush 8, 2) := by decide +kernel
theorem dX12_feed_53 : decode cX12_feed 53 = .ok (.iload_n 3, 1) := by decide +kernel
theorem dX12_feed_54 : decode cX12_feed 54 = .ok (.imul, 1) := by decide +kernel
theorem dX12_feed_55 : decode cX12_feed 55 = .ok (.ishr, 1) := by decide +kernel
theorem dX12_feed_56 : decode cX12_feed 56 = .ok (.sipush 255, 3) := by decide +kernel
theorem dX12_feed_59 : decode cX12_feed 59 = .ok (.iand, 1) := by decide +kernel
theorem dX12_feed_60 : decode cX12_feed 60 = .ok (.iastore, 1) := by decide +kernel
theorem dX12_feed_61 : decode cX12_feed 61 = .ok (.aload_n 0, 1) := by decide +kernel
theorem dX12_feed_62 : decode cX12_feed 62 = .ok (.dup, 1) := by decide +kernel
theorem dX12_feed_63 : decode cX12_feed 63 = .ok (.getfield 223, 3) := by decide +kernel
theorem dX12_feed_66 : decode cX12_feed 66 = .ok (.iconst 1, 1) := by decide +kernel
theorem dX12_feed_67 : decode cX12_feed 67 = .ok (.iadd, 1) := by decide +kernel
theorem dX12_feed_68 : decode cX12_feed 68 = .ok (.putfield 223, 3) := by decide +kernel
theorem dX12_feed_71 : decode cX12_feed 71 = .ok (.iinc 3 (-1), 3) := by decide +kernel
theorem dX12_feed_74 : decode cX12_feed 74 = .ok (.goto (-36), 3) := by decide +kernel
theorem dX12_feed_77 : decode cX12_feed 77 = .ok (.aload_n 0, 1) := by decide +kernel
theorem dX12_feed_78 : decode cX12_feed 78 = .ok (.getfield 223, 3) := by decide +kernel
theorem dX12_feed_81 : decode cX12_feed 81 = .ok (.ireturn, 1) := by decide +kernel
theorem dX12_wipe_0 : decode cX12_wipe 0 = .ok (.aload_n 0, 1) := by decide +kernel
theorem dX12_wipe_1 : decode cX12_wipe 1 = .ok (.getfield 223, 3) := by decide +kernel
theorem dX12_wipe_4 : decode cX12_wipe 4 = .ok (.istore_n 1, 1) := by decide +kernel
theorem dX12_wipe_5 : decode cX12_wipe 5 = .ok (.aload_n 0, 1) := by decide +kernel
theorem dX12_wipe_6 : decode cX12_wipe 6 = .ok (.iconst 0, 1) := by decide +kernel
theorem dX12_wipe_7 : decode cX12_wipe 7 = .ok (.putfield 223, 3) := by decide +kernel
theorem dX12_wipe_10 : decode cX12_wipe 10 = .ok (.iload_n 1, 1) := by decide +kernel
theorem dX12_wipe_11 : decode cX12_wipe 11 = .ok (.ireturn, 1) := by decide +kernel
theorem dX12_isByte_0 : decode cX12_isByte 0 = .ok (.iload_n 1, 1) := by decide +kernel
theorem dX12_isByte_1 : decode cX12_isByte 1 = .ok (.aload_n 0, 1) := by decide +kernel
theorem dX12_isByte_2 : decode cX12_isByte 2 = .ok (.getfield 223, 3) := by decide +kernel
theorem dX12_isByte_5 : decode cX12_isByte 5 = .ok (.if_icmp .ge 21, 3) := by decide +kernel
theorem dX12_isByte_8 : decode cX12_isByte 8 = .ok (.aload_n 0, 1) := by decide +kernel
theorem dX12_isByte_9 : decode cX12_isByte 9 = .ok (.getfield 22, 3) := by decide +kernel
theorem dX12_isByte_12 : decode cX12_isByte 12 = .ok (.iload_n 1, 1) := by decide +kernel
theorem dX12_isByte_13 : decode cX12_isByte 13 = .ok (.iaload, 1) := by decide +kernel
theorem dX12_isByte_14 : decode cX12_isByte 14 = .ok (.iload_n 2, 1) := by decide +kernel
theorem dX12_isByte_15 : decode cX12_isByte 15 = .ok (.iload_n 3, 1) := by decide +kernel
theorem dX12_isByte_16 : decode cX12_isByte 16 = .ok (.invokestatic 58, 3) := by decide +kernel
theorem dX12_isByte_19 : decode cX12_isByte 19 = .ok (.ifCond .eq 7, 3) := by decide +kernel
theorem dX12_isByte_22 : decode cX12_isByte 22 = .ok (.iconst 1, 1) := by decide +kernel
theorem dX12_isByte_23 : decode cX12_isByte 23 = .ok (.goto 4, 3) := by decide +kernel
theorem dX12_isByte_26 : decode cX12_isByte 26 = .ok (.iconst 0, 1) := by decide +kernel
theorem dX12_isByte_27 : decode cX12_isByte 27 = .ok (.ireturn, 1) := by decide +kernel
theorem dX12_nextToken_0 : decode cX12_nextToken 0 = .ok (.aload_n 0, 1) := by decide +kernel
theorem dX12_nextToken_1 : decode cX12_nextToken 1 = .ok (.aload_n 0, 1) := by decide +kernel
theorem dX12_nextToken_2 : decode cX12_nextToken 2 = .ok (.getfield 226, 3) := by decide +kernel
theorem dX12_nextToken_5 : decode cX12_nextToken 5 = .ok (.putfield 229, 3) := by decide +kernel
theorem dX12_nextToken_8 : decode cX12_nextToken 8 = .ok (.aload_n 0, 1) := by decide +kernel
theorem dX12_nextToken_9 : decode cX12_nextToken 9 = .ok (.getfield 229, 3) := by decide +kernel
theorem dX12_nextToken_12 : decode cX12_nextToken 12 = .ok (.aload_n 0, 1) := by decide +kernel
theorem dX12_nextToken_13 : decode cX12_nextToken 13 = .ok (.getfield 223, 3) := by decide +kernel
theorem dX12_nextToken_16 : decode cX12_nextToken 16 = .ok (.if_icmp .ge 30, 3) := by decide +kernel
theorem dX12_nextToken_19 : decode cX12_nextToken 19 = .ok (.aload_n 0, 1) := by decide +kernel
theorem dX12_nextToken_20 : decode cX12_nextToken 20 = .ok (.getfield 22, 3) := by decide +kernel
theorem dX12_nextToken_23 : decode cX12_nextToken 23 = .ok (.aload_n 0, 1) := by decide +kernel
theorem dX12_nextToken_24 : decode cX12_nextToken 24 = .ok (.getfield 229, 3) := by decide +kernel
theorem dX12_nextToken_27 : decode cX12_nextToken 27 = .ok (.iaload, 1) := by decide +kernel
theorem dX12_nextToken_28 : decode cX12_nextToken 28 = .ok (.bipush 32, 2) := by decide +kernel
theorem dX12_nextToken_30 : decode cX12_nextToken 30 = .ok (.if_icmp .ne 16, 3) := by decide +kernel
theorem dX12_nextToken_33 : decode cX12_nextToken 33 = .ok (.aload_n 0, 1) := by decide +kernel
theorem dX12_nextToken_34 : decode cX12_nextToken 34 = .ok (.dup, 1) := by decide +kernel
theorem dX12_nextToken_35 : decode cX12_nextToken 35 = .ok (.getfield 229, 3) := by decide +kernel
theorem dX12_nextToken_38 : decode cX12_nextToken 38 = .ok (.iconst 1, 1) := by decide +kernel
theorem dX12_nextToken_39 : decode cX12_nextToken 39 = .ok (.iadd, 1) := by decide +kernel
theorem dX12_nextToken_40 : decode cX12_nextToken 40 = .ok (.putfield 229, 3) := by decide +kernel
theorem dX12_nextToken_43 : decode cX12_nextToken 43 = .ok (.goto (-35), 3) := by decide +kernel
theorem dX12_nextToken_46 : decode cX12_nextToken 46 = .ok (.aload_n 0, 1) := by decide +kernel
theorem dX12_nextToken_47 : decode cX12_nextToken 47 = .ok (.aload_n 0, 1) := by decide +kernel
theorem dX12_nextToken_48 : decode cX12_nextToken 48 = .ok (.getfield 229, 3) := by decide +kernel
theorem dX12_nextToken_51 : decode cX12_nextToken 51 = .ok (.putfield 226, 3) := by decide +kernel
theorem dX12_nextToken_54 : decode cX12_nextToken 54 = .ok (.aload_n 0, 1) := by decide +kernel
theorem dX12_nextToken_55 : decode cX12_nextToken 55 = .ok (.getfield 229, 3) := by decide +kernel
theorem dX12_nextToken_58 : decode cX12_nextToken 58 = .ok (.aload_n 0, 1) := by decide +kernel
theorem dX12_nextToken_59 : decode cX12_nextToken 59 = .ok (.getfield 223, 3) := by decide +kernel
theorem dX12_nextToken_62 : decode cX12_nextToken 62 = .ok (.if_icmp .ne 9, 3) := by decide +kernel
theorem dX12_nextToken_65 : decode cX12_nextToken 65 = .ok (.aload_n 0, 1) := by decide +kernel
theorem dX12_nextToken_66 : decode cX12_nextToken 66 = .ok (.iconst 0, 1) := by decide +kernel
theorem dX12_nextToken_67 : decode cX12_nextToken 67 = .ok (.putfield 232, 3) := by decide +kernel
theorem dX12_nextToken_70 : decode cX12_nextToken 70 = .ok (.return_, 1) := by decide +kernel
theorem dX12_nextToken_71 : decode cX12_nextToken 71 = .ok (.aload_n 0, 1) := by decide +kernel
theorem dX12_nextToken_72 : decode cX12_nextToken 72 = .ok (.aload_n 0, 1) := by decide +kernel
theorem dX12_nextToken_73 : decode cX12_nextToken 73 = .ok (.aload_n 0, 1) := by decide +kernel
theorem dX12_nextToken_74 : decode cX12_nextToken 74 = .ok (.getfield 229, 3) := by decide +kernel
theorem dX12_nextToken_77 : decode cX12_nextToken 77 = .ok (.bipush 97, 2) := by decide +kernel
theorem dX12_nextToken_79 : decode cX12_nextToken 79 = .ok (.bipush 122, 2) := by decide +kernel
theorem dX12_nextToken_81 : decode cX12_nextToken 81 = .ok (.invokevirtual 235, 3) := by decide +kernel
theorem dX12_nextToken_84 : decode cX12_nextToken 84 = .ok (.ifCond .eq 7, 3) := by decide +kernel
theorem dX12_nextToken_87 : decode cX12_nextToken 87 = .ok (.iconst 1, 1) := by decide +kernel
theorem dX12_nextToken_88 : decode cX12_nextToken 88 = .ok (.goto 23, 3) := by decide +kernel
theorem dX12_nextToken_91 : decode cX12_nextToken 91 = .ok (.aload_n 0, 1) := by decide +kernel
theorem dX12_nextToken_92 : decode cX12_nextToken 92 = .ok (.aload_n 0, 1) := by decide +kernel
theorem dX12_nextToken_93 : decode cX12_nextToken 93 = .ok (.getfield 229, 3) := by decide +kernel
theorem dX12_nextToken_96 : decode cX12_nextToken 96 = .ok (.bipush 48, 2) := by decide +kernel
theorem dX12_nextToken_98 : decode cX12_nextToken 98 = .ok (.bipush 57, 2) := by decide +kernel
theorem dX12_nextToken_100 : decode cX12_nextToken 100 = .ok (.invokevirtual 235, 3) := by decide +kernel
theorem dX12_nextToken_103 : decode cX12_nextToken 103 = .ok (.ifCond .eq 7, 3) := by decide +kernel
theorem dX12_nextToken_106 : decode cX12_nextToken 106 = .ok (.iconst 2, 1) := by decide +kernel
theorem dX12_nextToken_107 : decode cX12_nextToken 107 = .ok (.goto 4, 3) := by decide +kernel
theorem dX12_nextToken_110 : decode cX12_nextToken 110 = .ok (.iconst 3, 1) := by decide +kernel
theorem dX12_nextToken_111 : decode cX12_nextToken 111 = .ok (.putfield 232, 3) := by decide +kernel
theorem dX12_nextToken_114 : decode cX12_nextToken 114 = .ok (.aload_n 0, 1) := by decide +kernel
theorem dX12_nextToken_115 : decode cX12_nextToken 115 = .ok (.dup, 1) := by decide +kernel
theorem dX12_nextToken_116 : decode cX12_nextToken 116 = .ok (.getfield 226, 3) := by decide +kernel
theorem dX12_nextToken_119 : decode cX12_nextToken 119 = .ok (.iconst 1, 1) := by decide +kernel
theorem dX12_nextToken_120 : decode cX12_nextToken 120 = .ok (.iadd, 1) := by decide +kernel
theorem dX12_nextToken_121 : decode cX12_nextToken 121 = .ok (.putfield 226, 3) := by decide +kernel
theorem dX12_nextToken_124 : decode cX12_nextToken 124 = .ok (.aload_n 0, 1) := by decide +kernel
theorem dX12_nextToken_125 : decode cX12_nextToken 125 = .ok (.getfield 232, 3) := by decide +kernel
theorem dX12_nextToken_128 : decode cX12_nextToken 128 = .ok (.iconst 1, 1) := by decide +kernel
theorem dX12_nextToken_129 : decode cX12_nextToken 129 = .ok (.if_icmp .ne 18, 3) := by decide +kernel
theorem dX12_nextToken_132 : decode cX12_nextToken 132 = .ok (.aload_n 0, 1) := by decide +kernel
theorem dX12_nextToken_133 : decode cX12_nextToken 133 = .ok (.aload_n 0, 1) := by decide +kernel
theorem dX12_nextToken_134 : decode cX12_nextToken 134 = .ok (.getfield 226, 3) := by decide +kernel
theorem dX12_nextToken_137 : decode cX12_nextToken 137 = .ok (.bipush 97, 2) := by decide +kernel
theorem dX12_nextToken_139 : decode cX12_nextToken 139 = .ok (.bipush 122, 2) := by decide +kernel
theorem dX12_nextToken_141 : decode cX12_nextToken 141 = .ok (.invokevirtual 235, 3) := by decide +kernel
theorem dX12_nextToken_144 : decode cX12_nextToken 144 = .ok (.ifCond .ne 26, 3) := by decide +kernel
theorem dX12_nextToken_147 : decode cX12_nextToken 147 = .ok (.aload_n 0, 1) := by decide +kernel
theorem dX12_nextToken_148 : decode cX12_nextToken 148 = .ok (.getfield 232, 3) := by decide +kernel
theorem dX12_nextToken_151 : decode cX12_nextToken 151 = .ok (.iconst 2, 1) := by decide +kernel
theorem dX12_nextToken_152 : decode cX12_nextToken 152 = .ok (.if_icmp .ne 31, 3) := by decide +kernel
theorem dX12_nextToken_155 : decode cX12_nextToken 155 = .ok (.aload_n 0, 1) := by decide +kernel
theorem dX12_nextToken_156 : decode cX12_nextToken 156 = .ok (.aload_n 0, 1) := by decide +kernel
theorem dX12_nextToken_157 : decode cX12_nextToken 157 = .ok (.getfield 226, 3) := by decide +kernel
theorem dX12_nextToken_160 : decode cX12_nextToken 160 = .ok (.bipush 48, 2) := by decide +kernel
theorem dX12_nextToken_162 : decode cX12_nextToken 162 = .ok (.bipush 57, 2) := by decide +kernel
theorem dX12_nextToken_164 : decode cX12_nextToken 164 = .ok (.invokevirtual 235, 3) := by decide +kernel
theorem dX12_nextToken_167 : decode cX12_nextToken 167 = .ok (.ifCond .eq 16, 3) := by decide +kernel
theorem dX12_nextToken_170 : decode cX12_nextToken 170 = .ok (.aload_n 0, 1) := by decide +kernel
theorem dX12_nextToken_171 : decode cX12_nextToken 171 = .ok (.dup, 1) := by decide +kernel
theorem dX12_nextToken_172 : decode cX12_nextToken 172 = .ok (.getfield 226, 3) := by decide +kernel
theorem dX12_nextToken_175 : decode cX12_nextToken 175 = .ok (.iconst 1, 1) := by decide +kernel
theorem dX12_nextToken_176 : decode cX12_nextToken 176 = .ok (.iadd, 1) := by decide +kernel
theorem dX12_nextToken_177 : decode cX12_nextToken 177 = .ok (.putfield 226, 3) := by decide +kernel
theorem dX12_nextToken_180 : decode cX12_nextToken 180 = .ok (.goto (-56), 3) := by decide +kernel
theorem dX12_nextToken_183 : decode cX12_nextToken 183 = .ok (.return_, 1) := by decide +kernel
theorem dX12_need_0 : decode cX12_need 0 = .ok (.aload_n 0, 1) := by decide +kernel
theorem dX12_need_1 : decode cX12_need 1 = .ok (.aload_n 0, 1) := by decide +kernel
theorem dX12_need_2 : decode cX12_need 2 = .ok (.getfield 238, 3) := by decide +kernel
theorem dX12_need_5 : decode cX12_need 5 = .ok (.ifCond .ne 7, 3) := by decide +kernel
theorem dX12_need_8 : decode cX12_need 8 = .ok (.iload_n 1, 1) := by decide +kernel
theorem dX12_need_9 : decode cX12_need 9 = .ok (.ifCond .ne 7, 3) := by decide +kernel
theorem dX12_need_12 : decode cX12_need 12 = .ok (.iconst 1, 1) := by decide +kernel
theorem dX12_need_13 : decode cX12_need 13 = .ok (.goto 4, 3) := by decide +kernel
theorem dX12_need_16 : decode cX12_need 16 = .ok (.iconst 0, 1) := by decide +kernel
theorem dX12_need_17 : decode cX12_need 17 = .ok (.putfield 238, 3) := by decide +kernel
theorem dX12_need_20 : decode cX12_need 20 = .ok (.aload_n 0, 1) := by decide +kernel
theorem dX12_need_21 : decode cX12_need 21 = .ok (.getfield 238, 3) := by decide +kernel
theorem dX12_need_24 : decode cX12_need 24 = .ok (.ifCond .ne 7, 3) := by decide +kernel
theorem dX12_need_27 : decode cX12_need 27 = .ok (.aload_n 0, 1) := by decide +kernel
theorem dX12_need_28 : decode cX12_need 28 = .ok (.invokevirtual 242, 3) := by decide +kernel
theorem dX12_need_31 : decode cX12_need 31 = .ok (.return_, 1) := by decide +kernel
theorem dX12_isWord_0 : decode cX12_isWord 0 = .ok (.aload_n 0, 1) := by decide +kernel
theorem dX12_isWord_1 : decode cX12_isWord 1 = .ok (.getfield 238, 3) := by decide +kernel
theorem dX12_isWord_4 : decode cX12_isWord 4 = .ok (.ifCond .ne 31, 3) := by decide +kernel
theorem dX12_isWord_7 : decode cX12_isWord 7 = .ok (.aload_n 0, 1) := by decide +kernel
theorem dX12_isWord_8 : decode cX12_isWord 8 = .ok (.getfield 232, 3) := by decide +kernel
theorem dX12_isWord_11 : decode cX12_isWord 11 = .ok (.iconst 1, 1) := by decide +kernel
theorem dX12_isWord_12 : decode cX12_isWord 12 = .ok (.if_icmp .ne 23, 3) := by decide +kernel
theorem dX12_isWord_15 : decode cX12_isWord 15 = .ok (.aload_n 0, 1) := by decide +kernel
theorem dX12_isWord_16 : decode cX12_isWord 16 = .ok (.getfield 226, 3) := by decide +kernel
theorem dX12_isWord_19 : decode cX12_isWord 19 = .ok (.aload_n 0, 1) := by decide +kernel
theorem dX12_isWord_20 : decode cX12_isWord 20 = .ok (.getfield 229, 3) := by decide +kernel
theorem dX12_isWord_23 : decode cX12_isWord 23 = .ok (.isub, 1) := by decide +kernel
theorem dX12_isWord_24 : decode cX12_isWord 24 = .ok (.aload_n 1, 1) := by decide +kernel
theorem dX12_isWord_25 : decode cX12_isWord 25 = .ok (.invokevirtual 245, 3) := by decide +kernel
theorem dX12_isWord_28 : decode cX12_isWord 28 = .ok (.if_icmp .ne 7, 3) := by decide +kernel
theorem dX12_isWord_31 : decode cX12_isWord 31 = .ok (.iconst 1, 1) := by decide +kernel
theorem dX12_isWord_32 : decode cX12_isWord 32 = .ok (.goto 4, 3) := by decide +kernel
theorem dX12_isWord_35 : decode cX12_isWord 35 = .ok (.iconst 0, 1) := by decide +kernel
theorem dX12_isWord_36 : decode cX12_isWord 36 = .ok (.istore_n 2, 1) := by decide +kernel
theorem dX12_isWord_37 : decode cX12_isWord 37 = .ok (.iconst 0, 1) := by decide +kernel
theorem dX12_isWord_38 : decode cX12_isWord 38 = .ok (.istore_n 3, 1) := by decide +kernel
theorem dX12_isWord_39 : decode cX12_isWord 39 = .ok (.iload_n 2, 1) := by decide +kernel
theorem dX12_isWord_40 : decode cX12_isWord 40 = .ok (.ifCond .eq 42, 3) := by decide +kernel
theorem dX12_isWord_43 : decode cX12_isWord 43 = .ok (.iload_n 3, 1) := by decide +kernel
theorem dX12_isWord_44 : decode cX12_isWord 44 = .ok (.aload_n 1, 1) := by decide +kernel
theorem dX12_isWord_45 : decode cX12_isWord 45 = .ok (.invokevirtual 245, 3) := by decide +kernel
theorem dX12_isWord_48 : decode cX12_isWord 48 = .ok (.if_icmp .ge 34, 3) := by decide +kernel
theorem dX12_isWord_51 : decode cX12_isWord 51 = .ok (.aload_n 0, 1) := by decide +kernel
theorem dX12_isWord_52 : decode cX12_isWord 52 = .ok (.getfield 22, 3) := by decide +kernel
theorem dX12_isWord_55 : decode cX12_isWord 55 = .ok (.aload_n 0, 1) := by decide +kernel
theorem dX12_isWord_56 : decode cX12_isWord 56 = .ok (.getfield 229, 3) := by decide +kernel
theorem dX12_isWord_59 : decode cX12_isWord 59 = .ok (.iload_n 3, 1) := by decide +kernel
theorem dX12_isWord_60 : decode cX12_isWord 60 = .ok (.iadd, 1) := by decide +kernel
theorem dX12_isWord_61 : decode cX12_isWord 61 = .ok (.iaload, 1) := by decide +kernel
theorem dX12_isWord_62 : decode cX12_isWord 62 = .ok (.aload_n 1, 1) := by decide +kernel
theorem dX12_isWord_63 : decode cX12_isWord 63 = .ok (.iload_n 3, 1) := by decide +kernel
theorem dX12_isWord_64 : decode cX12_isWord 64 = .ok (.invokevirtual 248, 3) := by decide +kernel
theorem dX12_isWord_67 : decode cX12_isWord 67 = .ok (.if_icmp .ne 7, 3) := by decide +kernel
theorem dX12_isWord_70 : decode cX12_isWord 70 = .ok (.iconst 1, 1) := by decide +kernel
theorem dX12_isWord_71 : decode cX12_isWord 71 = .ok (.goto 4, 3) := by decide +kernel
theorem dX12_isWord_74 : decode cX12_isWord 74 = .ok (.iconst 0, 1) := by decide +kernel
theorem dX12_isWord_75 : decode cX12_isWord 75 = .ok (.istore_n 2, 1) := by decide +kernel
theorem dX12_isWord_76 : decode cX12_isWord 76 = .ok (.iinc 3 1, 3) := by decide +kernel
theorem dX12_isWord_79 : decode cX12_isWord 79 = .ok (.goto (-40), 3) := by decide +kernel
theorem dX12_isWord_82 : decode cX12_isWord 82 = .ok (.iload_n 2, 1) := by decide +kernel
theorem dX12_isWord_83 : decode cX12_isWord 83 = .ok (.ireturn, 1) := by decide +kernel
theorem dX12_isSign_0 : decode cX12_isSign 0 = .ok (.aload_n 0, 1) := by decide +kernel
theorem dX12_isSign_1 : decode cX12_isSign 1 = .ok (.getfield 238, 3) := by decide +kernel
theorem dX12_isSign_4 : decode cX12_isSign 4 = .ok (.ifCond .ne 28, 3) := by decide +kernel
theorem dX12_isSign_7 : decode cX12_isSign 7 = .ok (.aload_n 0, 1) := by decide +kernel
theorem dX12_isSign_8 : decode cX12_isSign 8 = .ok (.getfield 232, 3) := by decide +kernel
theorem dX12_isSign_11 : decode cX12_isSign 11 = .ok (.iconst 3, 1) := by decide +kernel
theorem dX12_isSign_12 : decode cX12_isSign 12 = .ok (.if_icmp .ne 20, 3) := by decide +kernel
theorem dX12_isSign_15 : decode cX12_isSign 15 = .ok (.aload_n 0, 1) := by decide +kernel
theorem dX12_isSign_16 : decode cX12_isSign 16 = .ok (.getfield 22, 3) := by decide +kernel
theorem dX12_isSign_19 : decode cX12_isSign 19 = .ok (.aload_n 0, 1) := by decide +kernel
theorem dX12_isSign_20 : decode cX12_isSign 20 = .ok (.getfield 229, 3) := by decide +kernel
theorem dX12_isSign_23 : decode cX12_isSign 23 = .ok (.iaload, 1) := by decide +kernel
theorem dX12_isSign_24 : decode cX12_isSign 24 = .ok (.iload_n 1, 1) := by decide +kernel
theorem dX12_isSign_25 : decode cX12_isSign 25 = .ok (.if_icmp .ne 7, 3) := by decide +kernel
theorem dX12_isSign_28 : decode cX12_isSign 28 = .ok (.iconst 1, 1) := by decide +kernel
theorem dX12_isSign_29 : decode cX12_isSign 29 = .ok (.goto 4, 3) := by decide +kernel
theorem dX12_isSign_32 : decode cX12_isSign 32 = .ok (.iconst 0, 1) := by decide +kernel
theorem dX12_isSign_33 : decode cX12_isSign 33 = .ok (.ireturn, 1) := by decide +kernel
theorem dX12_emit_0 : decode cX12_emit 0 = .ok (.aload_n 0, 1) := by decide +kernel
theorem dX12_emit_1 : decode cX12_emit 1 = .ok (.getfield 238, 3) := by decide +kernel
theorem dX12_emit_4 : decode cX12_emit 4 = .ok (.ifCond .ne 23, 3) := by decide +kernel
theorem dX12_emit_7 : decode cX12_emit 7 = .ok (.aload_n 0, 1) := by decide +kernel
theorem dX12_emit_8 : decode cX12_emit 8 = .ok (.getfield 39, 3) := by decide +kernel
theorem dX12_emit_11 : decode cX12_emit 11 = .ok (.aload_n 0, 1) := by decide +kernel
theorem dX12_emit_12 : decode cX12_emit 12 = .ok (.getfield 252, 3) := by decide +kernel
theorem dX12_emit_15 : decode cX12_emit 15 = .ok (.iload_n 1, 1) := by decide +kernel
theorem dX12_emit_16 : decode cX12_emit 16 = .ok (.iastore, 1) := by decide +kernel
theorem dX12_emit_17 : decode cX12_emit 17 = .ok (.aload_n 0, 1) := by decide +kernel
theorem dX12_emit_18 : decode cX12_emit 18 = .ok (.dup, 1) := by decide +kernel
theorem dX12_emit_19 : decode cX12_emit 19 = .ok (.getfield 252, 3) := by decide +kernel
theorem dX12_emit_22 : decode cX12_emit 22 = .ok (.iconst 1, 1) := by decide +kernel
theorem dX12_emit_23 : decode cX12_emit 23 = .ok (.iadd, 1) := by decide +kernel
theorem dX12_emit_24 : decode cX12_emit 24 = .ok (.putfield 252, 3) := by decide +kernel
theorem dX12_emit_27 : decode cX12_emit 27 = .ok (.return_, 1) := by decide +kernel
theorem dX12_either_0 : decode cX12_either 0 = .ok (.aload_n 0, 1) := by decide +kernel
theorem dX12_either_1 : decode cX12_either 1 = .ok (.invokevirtual 255, 3) := by decide +kernel
theorem dX12_either_4 : decode cX12_either 4 = .ok (.aload_n 0, 1) := by decide +kernel
theorem dX12_either_5 : decode cX12_either 5 = .ok (.bipush 124, 2) := by decide +kernel
theorem dX12_either_7 : decode cX12_either 7 = .ok (.invokevirtual 258, 3) := by decide +kernel
theorem dX12_either_10 : decode cX12_either 10 = .ok (.ifCond .eq 22, 3) := by decide +kernel
theorem dX12_either_13 : decode cX12_either 13 = .ok (.aload_n 0, 1) := by decide +kernel
theorem dX12_either_14 : decode cX12_either 14 = .ok (.iconst 1, 1) := by decide +kernel
theorem dX12_either_15 : decode cX12_either 15 = .ok (.invokevirtual 261, 3) := by decide +kernel
theorem dX12_either_18 : decode cX12_either 18 = .ok (.aload_n 0, 1) := by decide +kernel
theorem dX12_either_19 : decode cX12_either 19 = .ok (.invokevirtual 255, 3) := by decide +kernel
theorem dX12_either_22 : decode cX12_either 22 = .ok (.aload_n 0, 1) := by decide +kernel
theorem dX12_either_23 : decode cX12_either 23 = .ok (.sipush 10106, 3) := by decide +kernel
theorem dX12_either_26 : decode cX12_either 26 = .ok (.invokevirtual 265, 3) := by decide +kernel
theorem dX12_either_29 : decode cX12_either 29 = .ok (.goto (-25), 3) := by decide +kernel
theorem dX12_either_32 : decode cX12_either 32 = .ok (.return_, 1) := by decide +kernel
theorem dX12_both_0 : decode cX12_both 0 = .ok (.aload_n 0, 1) := by decide +kernel
theorem dX12_both_1 : decode cX12_both 1 = .ok (.invokevirtual 268, 3) := by decide +kernel
theorem dX12_both_4 : decode cX12_both 4 = .ok (.aload_n 0, 1) := by decide +kernel
theorem dX12_both_5 : decode cX12_both 5 = .ok (.bipush 38, 2) := by decide +kernel
theorem dX12_both_7 : decode cX12_both 7 = .ok (.invokevirtual 258, 3) := by decide +kernel
theorem dX12_both_10 : decode cX12_both 10 = .ok (.ifCond .eq 22, 3) := by decide +kernel
theorem dX12_both_13 : decode cX12_both 13 = .ok (.aload_n 0, 1) := by decide +kernel
theorem dX12_both_14 : decode cX12_both 14 = .ok (.iconst 1, 1) := by decide +kernel
theorem dX12_both_15 : decode cX12_both 15 = .ok (.invokevirtual 261, 3) := by decide +kernel
theorem dX12_both_18 : decode cX12_both 18 = .ok (.aload_n 0, 1) := by decide +kernel
theorem dX12_both_19 : decode cX12_both 19 = .ok (.invokevirtual 268, 3) := by decide +kernel
theorem dX12_both_22 : decode cX12_both 22 = .ok (.aload_n 0, 1) := by decide +kernel
theorem dX12_both_23 : decode cX12_both 23 = .ok (.sipush 10105, 3) := by decide +kernel
theorem dX12_both_26 : decode cX12_both 26 = .ok (.invokevirtual 265, 3) := by decide +kernel
theorem dX12_both_29 : decode cX12_both 29 = .ok (.goto (-25), 3) := by decide +kernel
theorem dX12_both_32 : decode cX12_both 32 = .ok (.return_, 1) := by decide +kernel
theorem dX12_not_0 : decode cX12_not 0 = .ok (.aload_n 0, 1) := by decide +kernel
theorem dX12_not_1 : decode cX12_not 1 = .ok (.bipush 33, 2) := by decide +kernel
theorem dX12_not_3 : decode cX12_not 3 = .ok (.invokevirtual 258, 3) := by decide +kernel
theorem dX12_not_6 : decode cX12_not 6 = .ok (.ifCond .eq 53, 3) := by decide +kernel
theorem dX12_not_9 : decode cX12_not 9 = .ok (.aload_n 0, 1) := by decide +kernel
theorem dX12_not_10 : decode cX12_not 10 = .ok (.aload_n 0, 1) := by decide +kernel
theorem dX12_not_11 : decode cX12_not 11 = .ok (.getfield 271, 3) := by decide +kernel
theorem dX12_not_14 : decode cX12_not 14 = .ok (.bipush 6, 2) := by decide +kernel
theorem dX12_not_16 : decode cX12_not 16 = .ok (.if_icmp .ge 7, 3) := by decide +kernel
theorem dX12_not_19 : decode cX12_not 19 = .ok (.iconst 1, 1) := by decide +kernel
theorem dX12_not_20 : decode cX12_not 20 = .ok (.goto 4, 3) := by decide +kernel
theorem dX12_not_23 : decode cX12_not 23 = .ok (.iconst 0, 1) := by decide +kernel
theorem dX12_not_24 : decode cX12_not 24 = .ok (.invokevirtual 261, 3) := by decide +kernel
theorem dX12_not_27 : decode cX12_not 27 = .ok (.aload_n 0, 1) := by decide +kernel
theorem dX12_not_28 : decode cX12_not 28 = .ok (.dup, 1) := by decide +kernel
theorem dX12_not_29 : decode cX12_not 29 = .ok (.getfield 271, 3) := by decide +kernel
theorem dX12_not_32 : decode cX12_not 32 = .ok (.iconst 1, 1) := by decide +kernel
theorem dX12_not_33 : decode cX12_not 33 = .ok (.iadd, 1) := by decide +kernel
theorem dX12_not_34 : decode cX12_not 34 = .ok (.putfield 271, 3) := by decide +kernel
theorem dX12_not_37 : decode cX12_not 37 = .ok (.aload_n 0, 1) := by decide +kernel
theorem dX12_not_38 : decode cX12_not 38 = .ok (.invokevirtual 268, 3) := by decide +kernel
theorem dX12_not_41 : decode cX12_not 41 = .ok (.aload_n 0, 1) := by decide +kernel
theorem dX12_not_42 : decode cX12_not 42 = .ok (.dup, 1) := by decide +kernel
theorem dX12_not_43 : decode cX12_not 43 = .ok (.getfield 271, 3) := by decide +kernel
theorem dX12_not_46 : decode cX12_not 46 = .ok (.iconst 1, 1) := by decide +kernel
theorem dX12_not_47 : decode cX12_not 47 = .ok (.isub, 1) := by decide +kernel
theorem dX12_not_48 : decode cX12_not 48 = .ok (.putfield 271, 3) := by decide +kernel
theorem dX12_not_51 : decode cX12_not 51 = .ok (.aload_n 0, 1) := by decide +kernel
theorem dX12_not_52 : decode cX12_not 52 = .ok (.sipush 10107, 3) := by decide +kernel
theorem dX12_not_55 : decode cX12_not 55 = .ok (.invokevirtual 265, 3) := by decide +kernel
theorem dX12_not_58 : decode cX12_not 58 = .ok (.return_, 1) := by decide +kernel
theorem dX12_not_59 : decode cX12_not 59 = .ok (.aload_n 0, 1) := by decide +kernel
theorem dX12_not_60 : decode cX12_not 60 = .ok (.invokevirtual 274, 3) := by decide +kernel
theorem dX12_not_63 : decode cX12_not 63 = .ok (.aload_n 0, 1) := by decide +kernel
theorem dX12_not_64 : decode cX12_not 64 = .ok (.bipush 60, 2) := by decide +kernel
theorem dX12_not_66 : decode cX12_not 66 = .ok (.invokevirtual 258, 3) := by decide +kernel
theorem dX12_not_69 : decode cX12_not 69 = .ok (.ifCond .eq 9, 3) := by decide +kernel
theorem dX12_not_72 : decode cX12_not 72 = .ok (.sipush 10102, 3) := by decide +kernel
theorem dX12_not_75 : decode cX12_not 75 = .ok (.goto 34, 3) := by decide +kernel
theorem dX12_not_78 : decode cX12_not 78 = .ok (.aload_n 0, 1) := by decide +kernel
theorem dX12_not_79 : decode cX12_not 79 = .ok (.bipush 61, 2) := by decide +kernel
theorem dX12_not_81 : decode cX12_not 81 = .ok (.invokevirtual 258, 3) := by decide +kernel
theorem dX12_not_84 : decode cX12_not 84 = .ok (.ifCond .eq 9, 3) := by decide +kernel
theorem dX12_not_87 : decode cX12_not 87 = .ok (.sipush 10103, 3) := by decide +kernel
theorem dX12_not_90 : decode cX12_not 90 = .ok (.goto 19, 3) := by decide +kernel
theorem dX12_not_93 : decode cX12_not 93 = .ok (.aload_n 0, 1) := by decide +kernel
theorem dX12_not_94 : decode cX12_not 94 = .ok (.bipush 62, 2) := by decide +kernel
theorem dX12_not_96 : decode cX12_not 96 = .ok (.invokevirtual 258, 3) := by decide +kernel
theorem dX12_not_99 : decode cX12_not 99 = .ok (.ifCond .eq 9, 3) := by decide +kernel
theorem dX12_not_102 : decode cX12_not 102 = .ok (.sipush 10104, 3) := by decide +kernel
theorem dX12_not_105 : decode cX12_not 105 = .ok (.goto 4, 3) := by decide +kernel
theorem dX12_not_108 : decode cX12_not 108 = .ok (.iconst 0, 1) := by decide +kernel
theorem dX12_not_109 : decode cX12_not 109 = .ok (.istore_n 1, 1) := by decide +kernel
theorem dX12_not_110 : decode cX12_not 110 = .ok (.iload_n 1, 1) := by decide +kernel
theorem dX12_not_111 : decode cX12_not 111 = .ok (.ifCond .le 17, 3) := by decide +kernel
theorem dX12_not_114 : decode cX12_not 114 = .ok (.aload_n 0, 1) := by decide +kernel
theorem dX12_not_115 : decode cX12_not 115 = .ok (.iconst 1, 1) := by decide +kernel
theorem dX12_not_116 : decode cX12_not 116 = .ok (.invokevirtual 261, 3) := by decide +kernel
theorem dX12_not_119 : decode cX12_not 119 = .ok (.aload_n 0, 1) := by decide +kernel
theorem dX12_not_120 : decode cX12_not 120 = .ok (.invokevirtual 274, 3) := by decide +kernel
theorem dX12_not_123 : decode cX12_not 123 = .ok (.aload_n 0, 1) := by decide +kernel
theorem dX12_not_124 : decode cX12_not 124 = .ok (.iload_n 1, 1) := by decide +kernel
theorem dX12_not_125 : decode cX12_not 125 = .ok (.invokevirtual 265, 3) := by decide +kernel
theorem dX12_not_128 : decode cX12_not 128 = .ok (.return_, 1) := by decide +kernel
theorem dX12_sum_0 : decode cX12_sum 0 = .ok (.aload_n 0, 1) := by decide +kernel
theorem dX12_sum_1 : decode cX12_sum 1 = .ok (.invokevirtual 277, 3) := by decide +kernel
theorem dX12_sum_4 : decode cX12_sum 4 = .ok (.aload_n 0, 1) := by decide +kernel
theorem dX12_sum_5 : decode cX12_sum 5 = .ok (.bipush 43, 2) := by decide +kernel
theorem dX12_sum_7 : decode cX12_sum 7 = .ok (.invokevirtual 258, 3) := by decide +kernel
theorem dX12_sum_10 : decode cX12_sum 10 = .ok (.ifCond .ne 12, 3) := by decide +kernel
theorem dX12_sum_13 : decode cX12_sum 13 = .ok (.aload_n 0, 1) := by decide +kernel
theorem dX12_sum_14 : decode cX12_sum 14 = .ok (.bipush 45, 2) := by decide +kernel
theorem dX12_sum_16 : decode cX12_sum 16 = .ok (.invokevirtual 258, 3) := by decide +kernel
theorem dX12_sum_19 : decode cX12_sum 19 = .ok (.ifCond .eq 39, 3) := by decide +kernel
theorem dX12_sum_22 : decode cX12_sum 22 = .ok (.aload_n 0, 1) := by decide +kernel
theorem dX12_sum_23 : decode cX12_sum 23 = .ok (.bipush 43, 2) := by decide +kernel
theorem dX12_sum_25 : decode cX12_sum 25 = .ok (.invokevirtual 258, 3) := by decide +kernel
theorem dX12_sum_28 : decode cX12_sum 28 = .ok (.ifCond .eq 9, 3) := by decide +kernel
theorem dX12_sum_31 : decode cX12_sum 31 = .ok (.sipush 10100, 3) := by decide +kernel
theorem dX12_sum_34 : decode cX12_sum 34 = .ok (.goto 6, 3) := by decide +kernel
theorem dX12_sum_37 : decode cX12_sum 37 = .ok (.sipush 10101, 3) := by decide +kernel
theorem dX12_sum_40 : decode cX12_sum 40 = .ok (.istore_n 1, 1) := by decide +kernel
theorem dX12_sum_41 : decode cX12_sum 41 = .ok (.aload_n 0, 1) := by decide +kernel
theorem dX12_sum_42 : decode cX12_sum 42 = .ok (.iconst 1, 1) := by decide +kernel
theorem dX12_sum_43 : decode cX12_sum 43 = .ok (.invokevirtual 261, 3) := by decide +kernel
theorem dX12_sum_46 : decode cX12_sum 46 = .ok (.aload_n 0, 1) := by decide +kernel
theorem dX12_sum_47 : decode cX12_sum 47 = .ok (.invokevirtual 277, 3) := by decide +kernel
theorem dX12_sum_50 : decode cX12_sum 50 = .ok (.aload_n 0, 1) := by decide +kernel
theorem dX12_sum_51 : decode cX12_sum 51 = .ok (.iload_n 1, 1) := by decide +kernel
theorem dX12_sum_52 : decode cX12_sum 52 = .ok (.invokevirtual 265, 3) := by decide +kernel
theorem dX12_sum_55 : decode cX12_sum 55 = .ok (.goto (-51), 3) := by decide +kernel
theorem dX12_sum_58 : decode cX12_sum 58 = .ok (.return_, 1) := by decide +kernel
theorem dX12_product_0 : decode cX12_product 0 = .ok (.aload_n 0, 1) := by decide +kernel
theorem dX12_product_1 : decode cX12_product 1 = .ok (.invokevirtual 280, 3) := by decide +kernel
theorem dX12_product_4 : decode cX12_product 4 = .ok (.aload_n 0, 1) := by decide +kernel
theorem dX12_product_5 : decode cX12_product 5 = .ok (.bipush 42, 2) := by decide +kernel
theorem dX12_product_7 : decode cX12_product 7 = .ok (.invokevirtual 258, 3) := by decide +kernel
theorem dX12_product_10 : decode cX12_product 10 = .ok (.ifCond .ne 12, 3) := by decide +kernel
theorem dX12_product_13 : decode cX12_product 13 = .ok (.aload_n 0, 1) := by decide +kernel
theorem dX12_product_14 : decode cX12_product 14 = .ok (.bipush 47, 2) := by decide +kernel
theorem dX12_product_16 : decode cX12_product 16 = .ok (.invokevirtual 258, 3) := by decide +kernel
theorem dX12_product_19 : decode cX12_product 19 = .ok (.ifCond .eq 39, 3) := by decide +kernel
theorem dX12_product_22 : decode cX12_product 22 = .ok (.aload_n 0, 1) := by decide +kernel
theorem dX12_product_23 : decode cX12_product 23 = .ok (.bipush 42, 2) := by decide +kernel
theorem dX12_product_25 : decode cX12_product 25 = .ok (.invokevirtual 258, 3) := by decide +kernel
theorem dX12_product_28 : decode cX12_product 28 = .ok (.ifCond .eq 9, 3) := by decide +kernel
theorem dX12_product_31 : decode cX12_product 31 = .ok (.sipush 10108, 3) := by decide +kernel
theorem dX12_product_34 : decode cX12_product 34 = .ok (.goto 6, 3) := by decide +kernel
theorem dX12_product_37 : decode cX12_product 37 = .ok (.sipush 10109, 3) := by decide +kernel
theorem dX12_product_40 : decode cX12_product 40 = .ok (.istore_n 1, 1) := by decide +kernel
theorem dX12_product_41 : decode cX12_product 41 = .ok (.aload_n 0, 1) := by decide +kernel
theorem dX12_product_42 : decode cX12_product 42 = .ok (.iconst 1, 1) := by decide +kernel
theorem dX12_product_43 : decode cX12_product 43 = .ok (.invokevirtual 261, 3) := by decide +kernel
theorem dX12_product_46 : decode cX12_product 46 = .ok (.aload_n 0, 1) := by decide +kernel
theorem dX12_product_47 : decode cX12_product 47 = .ok (.invokevirtual 280, 3) := by decide +kernel
theorem dX12_product_50 : decode cX12_product 50 = .ok (.aload_n 0, 1) := by decide +kernel
theorem dX12_product_51 : decode cX12_product 51 = .ok (.iload_n 1, 1) := by decide +kernel
theorem dX12_product_52 : decode cX12_product 52 = .ok (.invokevirtual 265, 3) := by decide +kernel
theorem dX12_product_55 : decode cX12_product 55 = .ok (.goto (-51), 3) := by decide +kernel
theorem dX12_product_58 : decode cX12_product 58 = .ok (.return_, 1) := by decide +kernel
theorem dX12_part_0 : decode cX12_part 0 = .ok (.iconst (-1), 1) := by decide +kernel
theorem dX12_part_1 : decode cX12_part 1 = .ok (.istore_n 1, 1) := by decide +kernel
theorem dX12_part_2 : decode cX12_part 2 = .ok (.iconst 0, 1) := by decide +kernel
theorem dX12_part_3 : decode cX12_part 3 = .ok (.istore_n 2, 1) := by decide +kernel
theorem dX12_part_4 : decode cX12_part 4 = .ok (.iload_n 2, 1) := by decide +kernel
theorem dX12_part_5 : decode cX12_part 5 = .ok (.aload_n 0, 1) := by decide +kernel
theorem dX12_part_6 : decode cX12_part 6 = .ok (.getfield 35, 3) := by decide +kernel
theorem dX12_part_9 : decode cX12_part 9 = .ok (.arraylength, 1) := by decide +kernel
theorem dX12_part_10 : decode cX12_part 10 = .ok (.if_icmp .ge 28, 3) := by decide +kernel
theorem dX12_part_13 : decode cX12_part 13 = .ok (.aload_n 0, 1) := by decide +kernel
theorem dX12_part_14 : decode cX12_part 14 = .ok (.aload_n 0, 1) := by decide +kernel
theorem dX12_part_15 : decode cX12_part 15 = .ok (.getfield 35, 3) := by decide +kernel
theorem dX12_part_18 : decode cX12_part 18 = .ok (.iload_n 2, 1) := by decide +kernel
theorem dX12_part_19 : decode cX12_part 19 = .ok (.aaload, 1) := by decide +kernel
theorem dX12_part_20 : decode cX12_part 20 = .ok (.invokevirtual 283, 3) := by decide +kernel
theorem dX12_part_23 : decode cX12_part 23 = .ok (.ifCond .eq 7, 3) := by decide +kernel
theorem dX12_part_26 : decode cX12_part 26 = .ok (.iload_n 2, 1) := by decide +kernel
theorem dX12_part_27 : decode cX12_part 27 = .ok (.goto 4, 3) := by decide +kernel
theorem dX12_part_30 : decode cX12_part 30 = .ok (.iload_n 1, 1) := by decide +kernel
theorem dX12_part_31 : decode cX12_part 31 = .ok (.istore_n 1, 1) := by decide +kernel
theorem dX12_part_32 : decode cX12_part 32 = .ok (.iinc 2 1, 3) := by decide +kernel
theorem dX12_part_35 : decode cX12_part 35 = .ok (.goto (-31), 3) := by decide +kernel
theorem dX12_part_38 : decode cX12_part 38 = .ok (.aload_n 0, 1) := by decide +kernel
theorem dX12_part_39 : decode cX12_part 39 = .ok (.getfield 238, 3) := by decide +kernel
theorem dX12_part_42 : decode cX12_part 42 = .ok (.ifCond .ne 73, 3) := by decide +kernel
theorem dX12_part_45 : decode cX12_part 45 = .ok (.aload_n 0, 1) := by decide +kernel
theorem dX12_part_46 : decode cX12_part 46 = .ok (.getfield 232, 3) := by decide +kernel
theorem dX12_part_49 : decode cX12_part 49 = .ok (.iconst 2, 1) := by decide +kernel
theorem dX12_part_50 : decode cX12_part 50 = .ok (.if_icmp .ne 65, 3) := by decide +kernel
theorem dX12_part_53 : decode cX12_part 53 = .ok (.aload_n 0, 1) := by decide +kernel
theorem dX12_part_54 : decode cX12_part 54 = .ok (.getfield 226, 3) := by decide +kernel
theorem dX12_part_57 : decode cX12_part 57 = .ok (.aload_n 0, 1) := by decide +kernel
theorem dX12_part_58 : decode cX12_part 58 = .ok (.getfield 229, 3) := by decide +kernel
theorem dX12_part_61 : decode cX12_part 61 = .ok (.isub, 1) := by decide +kernel
theorem dX12_part_62 : decode cX12_part 62 = .ok (.iconst 4, 1) := by decide +kernel
theorem dX12_part_63 : decode cX12_part 63 = .ok (.if_icmp .gt 52, 3) := by decide +kernel
theorem dX12_part_66 : decode cX12_part 66 = .ok (.iconst 0, 1) := by decide +kernel
theorem dX12_part_67 : decode cX12_part 67 = .ok (.istore_n 2, 1) := by decide +kernel
theorem dX12_part_68 : decode cX12_part 68 = .ok (.aload_n 0, 1) := by decide +kernel
theorem dX12_part_69 : decode cX12_part 69 = .ok (.getfield 229, 3) := by decide +kernel
theorem dX12_part_72 : decode cX12_part 72 = .ok (.istore_n 3, 1) := by decide +kernel
theorem dX12_part_73 : decode cX12_part 73 = .ok (.iload_n 3, 1) := by decide +kernel
theorem dX12_part_74 : decode cX12_part 74 = .ok (.aload_n 0, 1) := by decide +kernel
theorem dX12_part_75 : decode cX12_part 75 = .ok (.getfield 226, 3) := by decide +kernel
theorem dX12_part_78 : decode cX12_part 78 = .ok (.if_icmp .ge 24, 3) := by decide +kernel
theorem dX12_part_81 : decode cX12_part 81 = .ok (.bipush 10, 2) := by decide +kernel
theorem dX12_part_83 : decode cX12_part 83 = .ok (.iload_n 2, 1) := by decide +kernel
theorem dX12_part_84 : decode cX12_part 84 = .ok (.imul, 1) := by decide +kernel
theorem dX12_part_85 : decode cX12_part 85 = .ok (.aload_n 0, 1) := by decide +kernel
theorem dX12_part_86 : decode cX12_part 86 = .ok (.getfield 22, 3) := by decide +kernel
theorem dX12_part_89 : decode cX12_part 89 = .ok (.iload_n 3, 1) := by decide +kernel
theorem dX12_part_90 : decode cX12_part 90 = .ok (.iaload, 1) := by decide +kernel
theorem dX12_part_91 : decode cX12_part 91 = .ok (.iadd, 1) := by decide +kernel
theorem dX12_part_92 : decode cX12_part 92 = .ok (.bipush 48, 2) := by decide +kernel
theorem dX12_part_94 : decode cX12_part 94 = .ok (.isub, 1) := by decide +kernel
theorem dX12_part_95 : decode cX12_part 95 = .ok (.istore_n 2, 1) := by decide +kernel
theorem dX12_part_96 : decode cX12_part 96 = .ok (.iinc 3 1, 3) := by decide +kernel
theorem dX12_part_99 : decode cX12_part 99 = .ok (.goto (-26), 3) := by decide +kernel
theorem dX12_part_102 : decode cX12_part 102 = .ok (.aload_n 0, 1) := by decide +kernel
theorem dX12_part_103 : decode cX12_part 103 = .ok (.iload_n 2, 1) := by decide +kernel
theorem dX12_part_104 : decode cX12_part 104 = .ok (.invokevirtual 265, 3) := by decide +kernel
theorem dX12_part_107 : decode cX12_part 107 = .ok (.aload_n 0, 1) := by decide +kernel
theorem dX12_part_108 : decode cX12_part 108 = .ok (.iconst 1, 1) := by decide +kernel
theorem dX12_part_109 : decode cX12_part 109 = .ok (.invokevirtual 261, 3) := by decide +kernel
theorem dX12_part_112 : decode cX12_part 112 = .ok (.goto 92, 3) := by decide +kernel
theorem dX12_part_115 : decode cX12_part 115 = .ok (.iload_n 1, 1) := by decide +kernel
theorem dX12_part_116 : decode cX12_part 116 = .ok (.ifCond .lt 20, 3) := by decide +kernel
theorem dX12_part_119 : decode cX12_part 119 = .ok (.aload_n 0, 1) := by decide +kernel
theorem dX12_part_120 : decode cX12_part 120 = .ok (.sipush 10000, 3) := by decide +kernel
theorem dX12_part_123 : decode cX12_part 123 = .ok (.iload_n 1, 1) := by decide +kernel
theorem dX12_part_124 : decode cX12_part 124 = .ok (.iadd, 1) := by decide +kernel
theorem dX12_part_125 : decode cX12_part 125 = .ok (.invokevirtual 265, 3) := by decide +kernel
theorem dX12_part_128 : decode cX12_part 128 = .ok (.aload_n 0, 1) := by decide +kernel
theorem dX12_part_129 : decode cX12_part 129 = .ok (.iconst 1, 1) := by decide +kernel
theorem dX12_part_130 : decode cX12_part 130 = .ok (.invokevirtual 261, 3) := by decide +kernel
theorem dX12_part_133 : decode cX12_part 133 = .ok (.goto 71, 3) := by decide +kernel
theorem dX12_part_136 : decode cX12_part 136 = .ok (.aload_n 0, 1) := by decide +kernel
theorem dX12_part_137 : decode cX12_part 137 = .ok (.aload_n 0, 1) := by decide +kernel
theorem dX12_part_138 : decode cX12_part 138 = .ok (.bipush 40, 2) := by decide +kernel
theorem dX12_part_140 : decode cX12_part 140 = .ok (.invokevirtual 258, 3) := by decide +kernel
theorem dX12_part_143 : decode cX12_part 143 = .ok (.ifCond .eq 16, 3) := by decide +kernel
theorem dX12_part_146 : decode cX12_part 146 = .ok (.aload_n 0, 1) := by decide +kernel
theorem dX12_part_147 : decode cX12_part 147 = .ok (.getfield 271, 3) := by decide +kernel
theorem dX12_part_150 : decode cX12_part 150 = .ok (.bipush 6, 2) := by decide +kernel
theorem dX12_part_152 : decode cX12_part 152 = .ok (.if_icmp .ge 7, 3) := by decide +kernel
theorem dX12_part_155 : decode cX12_part 155 = .ok (.iconst 1, 1) := by decide +kernel
theorem dX12_part_156 : decode cX12_part 156 = .ok (.goto 4, 3) := by decide +kernel
theorem dX12_part_159 : decode cX12_part 159 = .ok (.iconst 0, 1) := by decide +kernel
theorem dX12_part_160 : decode cX12_part 160 = .ok (.invokevirtual 261, 3) := by decide +kernel
theorem dX12_part_163 : decode cX12_part 163 = .ok (.aload_n 0, 1) := by decide +kernel
theorem dX12_part_164 : decode cX12_part 164 = .ok (.dup, 1) := by decide +kernel
theorem dX12_part_165 : decode cX12_part 165 = .ok (.getfield 271, 3) := by decide +kernel
theorem dX12_part_168 : decode cX12_part 168 = .ok (.iconst 1, 1) := by decide +kernel
theorem dX12_part_169 : decode cX12_part 169 = .ok (.iadd, 1) := by decide +kernel
theorem dX12_part_170 : decode cX12_part 170 = .ok (.putfield 271, 3) := by decide +kernel
theorem dX12_part_173 : decode cX12_part 173 = .ok (.aload_n 0, 1) := by decide +kernel
theorem dX12_part_174 : decode cX12_part 174 = .ok (.getfield 238, 3) := by decide +kernel
theorem dX12_part_177 : decode cX12_part 177 = .ok (.ifCond .ne 7, 3) := by decide +kernel
theorem dX12_part_180 : decode cX12_part 180 = .ok (.aload_n 0, 1) := by decide +kernel
theorem dX12_part_181 : decode cX12_part 181 = .ok (.invokevirtual 287, 3) := by decide +kernel
theorem dX12_part_184 : decode cX12_part 184 = .ok (.aload_n 0, 1) := by decide +kernel
theorem dX12_part_185 : decode cX12_part 185 = .ok (.aload_n 0, 1) := by decide +kernel
theorem dX12_part_186 : decode cX12_part 186 = .ok (.bipush 41, 2) := by decide +kernel
theorem dX12_part_188 : decode cX12_part 188 = .ok (.invokevirtual 258, 3) := by decide +kernel
theorem dX12_part_191 : decode cX12_part 191 = .ok (.invokevirtual 261, 3) := by decide +kernel
theorem dX12_part_194 : decode cX12_part 194 = .ok (.aload_n 0, 1) := by decide +kernel
theorem dX12_part_195 : decode cX12_part 195 = .ok (.dup, 1) := by decide +kernel
theorem dX12_part_196 : decode cX12_part 196 = .ok (.getfield 271, 3) := by decide +kernel
theorem dX12_part_199 : decode cX12_part 199 = .ok (.iconst 1, 1) := by decide +kernel
theorem dX12_part_200 : decode cX12_part 200 = .ok (.isub, 1) := by decide +kernel
theorem dX12_part_201 : decode cX12_part 201 = .ok (.putfield 271, 3) := by decide +kernel
theorem dX12_part_204 : decode cX12_part 204 = .ok (.return_, 1) := by decide +kernel
theorem dX12_text_0 : decode cX12_text 0 = .ok (.iload_n 1, 1) := by decide +kernel
theorem dX12_text_1 : decode cX12_text 1 = .ok (.iconst 0, 1) := by decide +kernel
theorem dX12_text_2 : decode cX12_text 2 = .ok (.iconst 1, 1) := by decide +kernel
theorem dX12_text_3 : decode cX12_text 3 = .ok (.invokestatic 58, 3) := by decide +kernel
theorem dX12_text_6 : decode cX12_text 6 = .ok (.ifCond .ne 10, 3) := by decide +kernel
theorem dX12_text_9 : decode cX12_text 9 = .ok (.aload_n 0, 1) := by decide +kernel
theorem dX12_text_10 : decode cX12_text 10 = .ok (.ldc 57, 2) := by decide +kernel
theorem dX12_text_12 : decode cX12_text 12 = .ok (.invokevirtual 62, 3) := by decide +kernel
theorem dX12_text_15 : decode cX12_text 15 = .ok (.ireturn, 1) := by decide +kernel
theorem dX12_text_16 : decode cX12_text 16 = .ok (.aload_n 0, 1) := by decide +kernel
theorem dX12_text_17 : decode cX12_text 17 = .ok (.getfield 9, 3) := by decide +kernel
theorem dX12_text_20 : decode cX12_text 20 = .ok (.bipush 8, 2) := by decide +kernel
theorem dX12_text_22 : decode cX12_text 22 = .ok (.iaload, 1) := by decide +kernel
theorem dX12_text_23 : decode cX12_text 23 = .ok (.bipush 6, 2) := by decide +kernel
theorem dX12_text_25 : decode cX12_text 25 = .ok (.if_icmp .ne 10, 3) := by decide +kernel
theorem dX12_text_28 : decode cX12_text 28 = .ok (.aload_n 0, 1) := by decide +kernel
theorem dX12_text_29 : decode cX12_text 29 = .ok (.ldc 66, 2) := by decide +kernel
theorem dX12_text_31 : decode cX12_text 31 = .ok (.invokevirtual 62, 3) := by decide +kernel
theorem dX12_text_34 : decode cX12_text 34 = .ok (.ireturn, 1) := by decide +kernel
theorem dX12_text_35 : decode cX12_text 35 = .ok (.aload_n 0, 1) := by decide +kernel
theorem dX12_text_36 : decode cX12_text 36 = .ok (.iconst 0, 1) := by decide +kernel
theorem dX12_text_37 : decode cX12_text 37 = .ok (.putfield 226, 3) := by decide +kernel
theorem dX12_text_40 : decode cX12_text 40 = .ok (.aload_n 0, 1) := by decide +kernel
theorem dX12_text_41 : decode cX12_text 41 = .ok (.iconst 0, 1) := by decide +kernel
theorem dX12_text_42 : decode cX12_text 42 = .ok (.putfield 238, 3) := by decide +kernel
theorem dX12_text_45 : decode cX12_text 45 = .ok (.aload_n 0, 1) := by decide +kernel
theorem dX12_text_46 : decode cX12_text 46 = .ok (.iconst 0, 1) := by decide +kernel
theorem dX12_text_47 : decode cX12_text 47 = .ok (.putfield 271, 3) := by decide +kernel
theorem dX12_text_50 : decode cX12_text 50 = .ok (.aload_n 0, 1) := by decide +kernel
theorem dX12_text_51 : decode cX12_text 51 = .ok (.iconst 0, 1) := by decide +kernel
theorem dX12_text_52 : decode cX12_text 52 = .ok (.putfield 252, 3) := by decide +kernel
theorem dX12_text_55 : decode cX12_text 55 = .ok (.aload_n 0, 1) := by decide +kernel
theorem dX12_text_56 : decode cX12_text 56 = .ok (.invokevirtual 242, 3) := by decide +kernel
theorem dX12_text_59 : decode cX12_text 59 = .ok (.aload_n 0, 1) := by decide +kernel
theorem dX12_text_60 : decode cX12_text 60 = .ok (.invokevirtual 287, 3) := by decide +kernel
theorem dX12_text_63 : decode cX12_text 63 = .ok (.aload_n 0, 1) := by decide +kernel
theorem dX12_text_64 : decode cX12_text 64 = .ok (.aload_n 0, 1) := by decide +kernel
theorem dX12_text_65 : decode cX12_text 65 = .ok (.getfield 238, 3) := by decide +kernel
theorem dX12_text_68 : decode cX12_text 68 = .ok (.ifCond .ne 10, 3) := by decide +kernel
theorem dX12_text_71 : decode cX12_text 71 = .ok (.aload_n 0, 1) := by decide +kernel
theorem dX12_text_72 : decode cX12_text 72 = .ok (.getfield 232, 3) := by decide +kernel
theorem dX12_text_75 : decode cX12_text 75 = .ok (.ifCond .eq 7, 3) := by decide +kernel
theorem dX12_text_78 : decode cX12_text 78 = .ok (.iconst 1, 1) := by decide +kernel
theorem dX12_text_79 : decode cX12_text 79 = .ok (.goto 4, 3) := by decide +kernel
theorem dX12_text_82 : decode cX12_text 82 = .ok (.iconst 0, 1) := by decide +kernel
theorem dX12_text_83 : decode cX12_text 83 = .ok (.putfield 238, 3) := by decide +kernel
theorem dX12_text_86 : decode cX12_text 86 = .ok (.aload_n 0, 1) := by decide +kernel
theorem dX12_text_87 : decode cX12_text 87 = .ok (.getfield 229, 3) := by decide +kernel
theorem dX12_text_90 : decode cX12_text 90 = .ok (.istore_n 2, 1) := by decide +kernel
theorem dX12_text_91 : decode cX12_text 91 = .ok (.aload_n 0, 1) := by decide +kernel
theorem dX12_text_92 : decode cX12_text 92 = .ok (.iconst 0, 1) := by decide +kernel
theorem dX12_text_93 : decode cX12_text 93 = .ok (.putfield 223, 3) := by decide +kernel
theorem dX12_text_96 : decode cX12_text 96 = .ok (.aload_n 0, 1) := by decide +kernel
theorem dX12_text_97 : decode cX12_text 97 = .ok (.getfield 238, 3) := by decide +kernel
theorem dX12_text_100 : decode cX12_text 100 = .ok (.ifCond .eq 7, 3) := by decide +kernel
theorem dX12_text_103 : decode cX12_text 103 = .ok (.iconst (-1), 1) := by decide +kernel
theorem dX12_text_104 : decode cX12_text 104 = .ok (.iload_n 2, 1) := by decide +kernel
theorem dX12_text_105 : decode cX12_text 105 = .ok (.isub, 1) := by decide +kernel
theorem dX12_text_106 : decode cX12_text 106 = .ok (.ireturn, 1) := by decide +kernel
theorem dX12_text_107 : decode cX12_text 107 = .ok (.sipush 346, 3) := by decide +kernel
theorem dX12_text_110 : decode cX12_text 110 = .ok (.bipush 104, 2) := by decide +kernel
theorem dX12_text_112 : decode cX12_text 112 = .ok (.aload_n 0, 1) := by decide +kernel
theorem dX12_text_113 : decode cX12_text 113 = .ok (.getfield 9, 3) := by decide +kernel
theorem dX12_text_116 : decode cX12_text 116 = .ok (.bipush 8, 2) := by decide +kernel
theorem dX12_text_118 : decode cX12_text 118 = .ok (.iaload, 1) := by decide +kernel
theorem dX12_text_119 : decode cX12_text 119 = .ok (.imul, 1) := by decide +kernel
theorem dX12_text_120 : decode cX12_text 120 = .ok (.iadd, 1) := by decide +kernel
theorem dX12_text_121 : decode cX12_text 121 = .ok (.istore_n 3, 1) := by decide +kernel
theorem dX12_text_122 : decode cX12_text 122 = .ok (.aload_n 0, 1) := by decide +kernel
theorem dX12_text_123 : decode cX12_text 123 = .ok (.getfield 9, 3) := by decide +kernel
theorem dX12_text_126 : decode cX12_text 126 = .ok (.iload_n 3, 1) := by decide +kernel
theorem dX12_text_127 : decode cX12_text 127 = .ok (.iload_n 1, 1) := by decide +kernel
theorem dX12_text_128 : decode cX12_text 128 = .ok (.iastore, 1) := by decide +kernel
theorem dX12_text_129 : decode cX12_text 129 = .ok (.aload_n 0, 1) := by decide +kernel
theorem dX12_text_130 : decode cX12_text 130 = .ok (.getfield 9, 3) := by decide +kernel
theorem dX12_text_133 : decode cX12_text 133 = .ok (.iload_n 3, 1) := by decide +kernel
theorem dX12_text_134 : decode cX12_text 134 = .ok (.iconst 1, 1) := by decide +kernel
theorem dX12_text_135 : decode cX12_text 135 = .ok (.iadd, 1) := by decide +kernel
theorem dX12_text_136 : decode cX12_text 136 = .ok (.aload_n 0, 1) := by decide +kernel
theorem dX12_text_137 : decode cX12_text 137 = .ok (.getfield 252, 3) := by decide +kernel
theorem dX12_text_140 : decode cX12_text 140 = .ok (.iastore, 1) := by decide +kernel
theorem dX12_text_141 : decode cX12_text 141 = .ok (.iconst 0, 1) := by decide +kernel
theorem dX12_text_142 : decode cX12_text 142 = .ok (.istore 4, 2) := by decide +kernel
theorem dX12_text_144 : decode cX12_text 144 = .ok (.iload 4, 2) := by decide +kernel
theorem dX12_text_146 : decode cX12_text 146 = .ok (.aload_n 0, 1) := by decide +kernel
theorem dX12_text_147 : decode cX12_text 147 = .ok (.getfield 252, 3) := by decide +kernel
theorem dX12_text_150 : decode cX12_text 150 = .ok (.if_icmp .ge 27, 3) := by decide +kernel
theorem dX12_text_153 : decode cX12_text 153 = .ok (.aload_n 0, 1) := by decide +kernel
theorem dX12_text_154 : decode cX12_text 154 = .ok (.getfield 9, 3) := by decide +kernel
theorem dX12_text_157 : decode cX12_text 157 = .ok (.iload_n 3, 1) := by decide +kernel
theorem dX12_text_158 : decode cX12_text 158 = .ok (.iconst 2, 1) := by decide +kernel
theorem dX12_text_159 : decode cX12_text 159 = .ok (.iadd, 1) := by decide +kernel
theorem dX12_text_160 : decode cX12_text 160 = .ok (.iload 4, 2) := by decide +kernel
theorem dX12_text_162 : decode cX12_text 162 = .ok (.iadd, 1) := by decide +kernel
theorem dX12_text_163 : decode cX12_text 163 = .ok (.aload_n 0, 1) := by decide +kernel
theorem dX12_text_164 : decode cX12_text 164 = .ok (.getfield 39, 3) := by decide +kernel
theorem dX12_text_167 : decode cX12_text 167 = .ok (.iload 4, 2) := by decide +kernel
theorem dX12_text_169 : decode cX12_text 169 = .ok (.iaload, 1) := by decide +kernel
theorem dX12_text_170 : decode cX12_text 170 = .ok (.iastore, 1) := by decide +kernel
theorem dX12_text_171 : decode cX12_text 171 = .ok (.iinc 4 1, 3) := by decide +kernel
theorem dX12_text_174 : decode cX12_text 174 = .ok (.goto (-30), 3) := by decide +kernel
theorem dX12_text_177 : decode cX12_text 177 = .ok (.aload_n 0, 1) := by decide +kernel
theorem dX12_text_178 : decode cX12_text 178 = .ok (.getfield 9, 3) := by decide +kernel
theorem dX12_text_181 : decode cX12_text 181 = .ok (.bipush 8, 2) := by decide +kernel
theorem dX12_text_183 : decode cX12_text 183 = .ok (.dup2, 1) := by decide +kernel
theorem dX12_text_184 : decode cX12_text 184 = .ok (.iaload, 1) := by decide +kernel
theorem dX12_text_185 : decode cX12_text 185 = .ok (.iconst 1, 1) := by decide +kernel
theorem dX12_text_186 : decode cX12_text 186 = .ok (.iadd, 1) := by decide +kernel
theorem dX12_text_187 : decode cX12_text 187 = .ok (.iastore, 1) := by decide +kernel
theorem dX12_text_188 : decode cX12_text 188 = .ok (.aload_n 0, 1) := by decide +kernel
theorem dX12_text_189 : decode cX12_text 189 = .ok (.getfield 9, 3) := by decide +kernel
theorem dX12_text_192 : decode cX12_text 192 = .ok (.bipush 8, 2) := by decide +kernel
theorem dX12_text_194 : decode cX12_text 194 = .ok (.iaload, 1) := by decide +kernel
theorem dX12_text_195 : decode cX12_text 195 = .ok (.iconst 1, 1) := by decide +kernel
theorem dX12_text_196 : decode cX12_text 196 = .ok (.isub, 1) := by decide +kernel
theorem dX12_text_197 : decode cX12_text 197 = .ok (.ireturn, 1) := by decide +kernel
theorem dX12_textOf_0 : decode cX12_textOf 0 = .ok (.iconst (-1), 1) := by decide +kernel
theorem dX12_textOf_1 : decode cX12_textOf 1 = .ok (.istore_n 2, 1) := by decide +kernel
theorem dX12_textOf_2 : decode cX12_textOf 2 = .ok (.iconst 0, 1) := by decide +kernel
theorem dX12_textOf_3 : decode cX12_textOf 3 = .ok (.istore_n 3, 1) := by decide +kernel
theorem dX12_textOf_4 : decode cX12_textOf 4 = .ok (.iload_n 3, 1) := by decide +kernel
theorem dX12_textOf_5 : decode cX12_textOf 5 = .ok (.aload_n 0, 1) := by decide +kernel
theorem dX12_textOf_6 : decode cX12_textOf 6 = .ok (.getfield 9, 3) := by decide +kernel
theorem dX12_textOf_9 : decode cX12_textOf 9 = .ok (.bipush 8, 2) := by decide +kernel
theorem dX12_textOf_11 : decode cX12_textOf 11 = .ok (.iaload, 1) := by decide +kernel
theorem dX12_textOf_12 : decode cX12_textOf 12 = .ok (.if_icmp .ge 32, 3) := by decide +kernel
theorem dX12_textOf_15 : decode cX12_textOf 15 = .ok (.aload_n 0, 1) := by decide +kernel
theorem dX12_textOf_16 : decode cX12_textOf 16 = .ok (.getfield 9, 3) := by decide +kernel
theorem dX12_textOf_19 : decode cX12_textOf 19 = .ok (.sipush 346, 3) := by decide +kernel
theorem dX12_textOf_22 : decode cX12_textOf 22 = .ok (.bipush 104, 2) := by decide +kernel
theorem dX12_textOf_24 : decode cX12_textOf 24 = .ok (.iload_n 3, 1) := by decide +kernel
theorem dX12_textOf_25 : decode cX12_textOf 25 = .ok (.imul, 1) := by decide +kernel
theorem dX12_textOf_26 : decode cX12_textOf 26 = .ok (.iadd, 1) := by decide +kernel
theorem dX12_textOf_27 : decode cX12_textOf 27 = .ok (.iaload, 1) := by decide +kernel
theorem dX12_textOf_28 : decode cX12_textOf 28 = .ok (.iload_n 1, 1) := by decide +kernel
theorem dX12_textOf_29 : decode cX12_textOf 29 = .ok (.if_icmp .ne 7, 3) := by decide +kernel
theorem dX12_textOf_32 : decode cX12_textOf 32 = .ok (.iload_n 3, 1) := by decide +kernel
theorem dX12_textOf_33 : decode cX12_textOf 33 = .ok (.goto 4, 3) := by decide +kernel
theorem dX12_textOf_36 : decode cX12_textOf 36 = .ok (.iload_n 2, 1) := by decide +kernel
theorem dX12_textOf_37 : decode cX12_textOf 37 = .ok (.istore_n 2, 1) := by decide +kernel
theorem dX12_textOf_38 : decode cX12_textOf 38 = .ok (.iinc 3 1, 3) := by decide +kernel
theorem dX12_textOf_41 : decode cX12_textOf 41 = .ok (.goto (-37), 3) := by decide +kernel
theorem dX12_textOf_44 : decode cX12_textOf 44 = .ok (.iload_n 2, 1) := by decide +kernel
theorem dX12_textOf_45 : decode cX12_textOf 45 = .ok (.ireturn, 1) := by decide +kernel
theorem dX12_force_0 : decode cX12_force 0 = .ok (.iload_n 1, 1) := by decide +kernel
theorem dX12_force_1 : decode cX12_force 1 = .ok (.iconst 0, 1) := by decide +kernel
theorem dX12_force_2 : decode cX12_force 2 = .ok (.iconst 1, 1) := by decide +kernel
theorem dX12_force_3 : decode cX12_force 3 = .ok (.invokestatic 58, 3) := by decide +kernel
theorem dX12_force_6 : decode cX12_force 6 = .ok (.ifCond .ne 10, 3) := by decide +kernel
theorem dX12_force_9 : decode cX12_force 9 = .ok (.aload_n 0, 1) := by decide +kernel
theorem dX12_force_10 : decode cX12_force 10 = .ok (.ldc 57, 2) := by decide +kernel
theorem dX12_force_12 : decode cX12_force 12 = .ok (.invokevirtual 62, 3) := by decide +kernel
theorem dX12_force_15 : decode cX12_force 15 = .ok (.ireturn, 1) := by decide +kernel
theorem dX12_force_16 : decode cX12_force 16 = .ok (.aload_n 0, 1) := by decide +kernel
theorem dX12_force_17 : decode cX12_force 17 = .ok (.iload_n 1, 1) := by decide +kernel
theorem dX12_force_18 : decode cX12_force 18 = .ok (.invokevirtual 140, 3) := by decide +kernel
theorem dX12_force_21 : decode cX12_force 21 = .ok (.istore_n 2, 1) := by decide +kernel
theorem dX12_force_22 : decode cX12_force 22 = .ok (.iload_n 2, 1) := by decide +kernel
theorem dX12_force_23 : decode cX12_force 23 = .ok (.ifCond .ge 13, 3) := by decide +kernel
theorem dX12_force_26 : decode cX12_force 26 = .ok (.aload_n 0, 1) := by decide +kernel
theorem dX12_force_27 : decode cX12_force 27 = .ok (.ldc_w 290, 3) := by decide +kernel
theorem dX12_force_30 : decode cX12_force 30 = .ok (.invokevirtual 62, 3) := by decide +kernel
theorem dX12_force_33 : decode cX12_force 33 = .ok (.goto 4, 3) := by decide +kernel
theorem dX12_force_36 : decode cX12_force 36 = .ok (.iload_n 2, 1) := by decide +kernel
theorem dX12_force_37 : decode cX12_force 37 = .ok (.ireturn, 1) := by decide +kernel
theorem dX12_done_0 : decode cX12_done 0 = .ok (.iload_n 0, 1) := by decide +kernel
theorem dX12_done_1 : decode cX12_done 1 = .ok (.tableswitch 126 10100 10109 #[55, 59, 79, 90, 101, 112, 126, 126, 63, 67], 55) := by decide +kernel
theorem dX12_done_56 : decode cX12_done 56 = .ok (.iload_n 1, 1) := by decide +kernel
theorem dX12_done_57 : decode cX12_done 57 = .ok (.iload_n 2, 1) := by decide +kernel
theorem dX12_done_58 : decode cX12_done 58 = .ok (.iadd, 1) := by decide +kernel
theorem dX12_done_59 : decode cX12_done 59 = .ok (.ireturn, 1) := by decide +kernel
theorem dX12_done_60 : decode cX12_done 60 = .ok (.iload_n 1, 1) := by decide +kernel
theorem dX12_done_61 : decode cX12_done 61 = .ok (.iload_n 2, 1) := by decide +kernel
theorem dX12_done_62 : decode cX12_done 62 = .ok (.isub, 1) := by decide +kernel
theorem dX12_done_63 : decode cX12_done 63 = .ok (.ireturn, 1) := by decide +kernel
theorem dX12_done_64 : decode cX12_done 64 = .ok (.iload_n 1, 1) := by decide +kernel
theorem dX12_done_65 : decode cX12_done 65 = .ok (.iload_n 2, 1) := by decide +kernel
theorem dX12_done_66 : decode cX12_done 66 = .ok (.imul, 1) := by decide +kernel
theorem dX12_done_67 : decode cX12_done 67 = .ok (.ireturn, 1) := by decide +kernel
theorem dX12_done_68 : decode cX12_done 68 = .ok (.iload_n 2, 1) := by decide +kernel
theorem dX12_done_69 : decode cX12_done 69 = .ok (.ifCond .ne 7, 3) := by decide +kernel
theorem dX12_done_72 : decode cX12_done 72 = .ok (.iconst 0, 1) := by decide +kernel
theorem dX12_done_73 : decode cX12_done 73 = .ok (.goto 6, 3) := by decide +kernel
theorem dX12_done_76 : decode cX12_done 76 = .ok (.iload_n 1, 1) := by decide +kernel
theorem dX12_done_77 : decode cX12_done 77 = .ok (.iload_n 2, 1) := by decide +kernel
theorem dX12_done_78 : decode cX12_done 78 = .ok (.idiv, 1) := by decide +kernel
theorem dX12_done_79 : decode cX12_done 79 = .ok (.ireturn, 1) := by decide +kernel
theorem dX12_done_80 : decode cX12_done 80 = .ok (.iload_n 1, 1) := by decide +kernel
theorem dX12_done_81 : decode cX12_done 81 = .ok (.iload_n 2, 1) := by decide +kernel
theorem dX12_done_82 : decode cX12_done 82 = .ok (.if_icmp .ge 7, 3) := by decide +kernel
theorem dX12_done_85 : decode cX12_done 85 = .ok (.iconst 1, 1) := by decide +kernel
theorem dX12_done_86 : decode cX12_done 86 = .ok (.goto 4, 3) := by decide +kernel
theorem dX12_done_89 : decode cX12_done 89 = .ok (.iconst 0, 1) := by decide +kernel
theorem dX12_done_90 : decode cX12_done 90 = .ok (.ireturn, 1) := by decide +kernel
theorem dX12_done_91 : decode cX12_done 91 = .ok (.iload_n 1, 1) := by decide +kernel
theorem dX12_done_92 : decode cX12_done 92 = .ok (.iload_n 2, 1) := by decide +kernel
theorem dX12_done_93 : decode cX12_done 93 = .ok (.if_icmp .ne 7, 3) := by decide +kernel
theorem dX12_done_96 : decode cX12_done 96 = .ok (.iconst 1, 1) := by decide +kernel
theorem dX12_done_97 : decode cX12_done 97 = .ok (.goto 4, 3) := by decide +kernel
theorem dX12_done_100 : decode cX12_done 100 = .ok (.iconst 0, 1) := by decide +kernel
theorem dX12_done_101 : decode cX12_done 101 = .ok (.ireturn, 1) := by decide +kernel
theorem dX12_done_102 : decode cX12_done 102 = .ok (.iload_n 1, 1) := by decide +kernel
theorem dX12_done_103 : decode cX12_done 103 = .ok (.iload_n 2, 1) := by decide +kernel
theorem dX12_done_104 : decode cX12_done 104 = .ok (.if_icmp .le 7, 3) := by decide +kernel
theorem dX12_done_107 : decode cX12_done 107 = .ok (.iconst 1, 1) := by decide +kernel
theorem dX12_done_108 : decode cX12_done 108 = .ok (.goto 4, 3) := by decide +kernel
theorem dX12_done_111 : decode cX12_done 111 = .ok (.iconst 0, 1) := by decide +kernel
theorem dX12_done_112 : decode cX12_done 112 = .ok (.ireturn, 1) := by decide +kernel
theorem dX12_done_113 : decode cX12_done 113 = .ok (.iload_n 1, 1) := by decide +kernel
theorem dX12_done_114 : decode cX12_done 114 = .ok (.ifCond .eq 11, 3) := by decide +kernel
theorem dX12_done_117 : decode cX12_done 117 = .ok (.iload_n 2, 1) := by decide +kernel
theorem dX12_done_118 : decode cX12_done 118 = .ok (.ifCond .eq 7, 3) := by decide +kernel
theorem dX12_done_121 : decode cX12_done 121 = .ok (.iconst 1, 1) := by decide +kernel
theorem dX12_done_122 : decode cX12_done 122 = .ok (.goto 4, 3) := by decide +kernel
theorem dX12_done_125 : decode cX12_done 125 = .ok (.iconst 0, 1) := by decide +kernel
theorem dX12_done_126 : decode cX12_done 126 = .ok (.ireturn, 1) := by decide +kernel
theorem dX12_done_127 : decode cX12_done 127 = .ok (.iload_n 1, 1) := by decide +kernel
theorem dX12_done_128 : decode cX12_done 128 = .ok (.ifCond .ne 7, 3) := by decide +kernel
theorem dX12_done_131 : decode cX12_done 131 = .ok (.iload_n 2, 1) := by decide +kernel
theorem dX12_done_132 : decode cX12_done 132 = .ok (.ifCond .eq 7, 3) := by decide +kernel
theorem dX12_done_135 : decode cX12_done 135 = .ok (.iconst 1, 1) := by decide +kernel
theorem dX12_done_136 : decode cX12_done 136 = .ok (.goto 4, 3) := by decide +kernel
theorem dX12_done_139 : decode cX12_done 139 = .ok (.iconst 0, 1) := by decide +kernel
theorem dX12_done_140 : decode cX12_done 140 = .ok (.ireturn, 1) := by decide +kernel
theorem dX12_worked_0 : decode cX12_worked 0 = .ok (.sipush 346, 3) := by decide +kernel
theorem dX12_worked_3 : decode cX12_worked 3 = .ok (.bipush 104, 2) := by decide +kernel
theorem dX12_worked_5 : decode cX12_worked 5 = .ok (.iload_n 1, 1) := by decide +kernel
theorem dX12_worked_6 : decode cX12_worked 6 = .ok (.imul, 1) := by decide +kernel
theorem dX12_worked_7 : decode cX12_worked 7 = .ok (.iadd, 1) := by decide +kernel
theorem dX12_worked_8 : decode cX12_worked 8 = .ok (.istore 5, 2) := by decide +kernel
theorem dX12_worked_10 : decode cX12_worked 10 = .ok (.iconst 0, 1) := by decide +kernel
theorem dX12_worked_11 : decode cX12_worked 11 = .ok (.istore 6, 2) := by decide +kernel
theorem dX12_worked_13 : decode cX12_worked 13 = .ok (.iconst 0, 1) := by decide +kernel
theorem dX12_worked_14 : decode cX12_worked 14 = .ok (.istore 7, 2) := by decide +kernel
theorem dX12_worked_16 : decode cX12_worked 16 = .ok (.iload 7, 2) := by decide +kernel
theorem dX12_worked_18 : decode cX12_worked 18 = .ok (.aload_n 0, 1) := by decide +kernel
theorem dX12_worked_19 : decode cX12_worked 19 = .ok (.getfield 9, 3) := by decide +kernel
theorem dX12_worked_22 : decode cX12_worked 22 = .ok (.iload 5, 2) := by decide +kernel
theorem dX12_worked_24 : decode cX12_worked 24 = .ok (.iconst 1, 1) := by decide +kernel
theorem dX12_worked_25 : decode cX12_worked 25 = .ok (.iadd, 1) := by decide +kernel
theorem dX12_worked_26 : decode cX12_worked 26 = .ok (.iaload, 1) := by decide +kernel
theorem dX12_worked_27 : decode cX12_worked 27 = .ok (.if_icmp .ge 180, 3) := by decide +kernel
theorem dX12_worked_30 : decode cX12_worked 30 = .ok (.aload_n 0, 1) := by decide +kernel
theorem dX12_worked_31 : decode cX12_worked 31 = .ok (.getfield 9, 3) := by decide +kernel
theorem dX12_worked_34 : decode cX12_worked 34 = .ok (.iload 5, 2) := by decide +kernel
theorem dX12_worked_36 : decode cX12_worked 36 = .ok (.iconst 2, 1) := by decide +kernel
theorem dX12_worked_37 : decode cX12_worked 37 = .ok (.iadd, 1) := by decide +kernel
theorem dX12_worked_38 : decode cX12_worked 38 = .ok (.iload 7, 2) := by decide +kernel
theorem dX12_worked_40 : decode cX12_worked 40 = .ok (.iadd, 1) := by decide +kernel
theorem dX12_worked_41 : decode cX12_worked 41 = .ok (.iaload, 1) := by decide +kernel
theorem dX12_worked_42 : decode cX12_worked 42 = .ok (.istore 8, 2) := by decide +kernel
theorem dX12_worked_44 : decode cX12_worked 44 = .ok (.iload 8, 2) := by decide +kernel
theorem dX12_worked_46 : decode cX12_worked 46 = .ok (.sipush 10000, 3) := by decide +kernel
theorem dX12_worked_49 : decode cX12_worked 49 = .ok (.if_icmp .ge 18, 3) := by decide +kernel
theorem dX12_worked_52 : decode cX12_worked 52 = .ok (.aload_n 0, 1) := by decide +kernel
theorem dX12_worked_53 : decode cX12_worked 53 = .ok (.getfield 42, 3) := by decide +kernel
theorem dX12_worked_56 : decode cX12_worked 56 = .ok (.iload 6, 2) := by decide +kernel
theorem dX12_worked_58 : decode cX12_worked 58 = .ok (.iload 8, 2) := by decide +kernel
theorem dX12_worked_60 : decode cX12_worked 60 = .ok (.iastore, 1) := by decide +kernel
theorem dX12_worked_61 : decode cX12_worked 61 = .ok (.iinc 6 1, 3) := by decide +kernel
theorem dX12_worked_64 : decode cX12_worked 64 = .ok (.goto 137, 3) := by decide +kernel
theorem dX12_worked_67 : decode cX12_worked 67 = .ok (.iload 8, 2) := by decide +kernel
theorem dX12_worked_69 : decode cX12_worked 69 = .ok (.sipush 10100, 3) := by decide +kernel
theorem dX12_worked_72 : decode cX12_worked 72 = .ok (.if_icmp .ge 59, 3) := by decide +kernel
theorem dX12_worked_75 : decode cX12_worked 75 = .ok (.aload_n 0, 1) := by decide +kernel
theorem dX12_worked_76 : decode cX12_worked 76 = .ok (.getfield 42, 3) := by decide +kernel
theorem dX12_worked_79 : decode cX12_worked 79 = .ok (.iload 6, 2) := by decide +kernel
theorem dX12_worked_81 : decode cX12_worked 81 = .ok (.iload 8, 2) := by decide +kernel
theorem dX12_worked_83 : decode cX12_worked 83 = .ok (.sipush 10000, 3) := by decide +kernel
theorem dX12_worked_86 : decode cX12_worked 86 = .ok (.if_icmp .ne 7, 3) := by decide +kernel
theorem dX12_worked_89 : decode cX12_worked 89 = .ok (.iload_n 2, 1) := by decide +kernel
theorem dX12_worked_90 : decode cX12_worked 90 = .ok (.goto 34, 3) := by decide +kernel
theorem dX12_worked_93 : decode cX12_worked 93 = .ok (.iload 8, 2) := by decide +kernel
theorem dX12_worked_95 : decode cX12_worked 95 = .ok (.sipush 10001, 3) := by decide +kernel
theorem dX12_worked_98 : decode cX12_worked 98 = .ok (.if_icmp .ne 7, 3) := by decide +kernel
theorem dX12_worked_101 : decode cX12_worked 101 = .ok (.iload_n 3, 1) := by decide +kernel
theorem dX12_worked_102 : decode cX12_worked 102 = .ok (.goto 22, 3) := by decide +kernel
theorem dX12_worked_105 : decode cX12_worked 105 = .ok (.iload 8, 2) := by decide +kernel
theorem dX12_worked_107 : decode cX12_worked 107 = .ok (.sipush 10002, 3) := by decide +kernel
theorem dX12_worked_110 : decode cX12_worked 110 = .ok (.if_icmp .ne 8, 3) := by decide +kernel
theorem dX12_worked_113 : decode cX12_worked 113 = .ok (.iload 4, 2) := by decide +kernel
theorem dX12_worked_115 : decode cX12_worked 115 = .ok (.goto 9, 3) := by decide +kernel
theorem dX12_worked_118 : decode cX12_worked 118 = .ok (.aload_n 0, 1) := by decide +kernel
theorem dX12_worked_119 : decode cX12_worked 119 = .ok (.getfield 9, 3) := by decide +kernel
theorem dX12_worked_122 : decode cX12_worked 122 = .ok (.iconst 1, 1) := by decide +kernel
theorem dX12_worked_123 : decode cX12_worked 123 = .ok (.iaload, 1) := by decide +kernel
theorem dX12_worked_124 : decode cX12_worked 124 = .ok (.iastore, 1) := by decide +kernel
theorem dX12_worked_125 : decode cX12_worked 125 = .ok (.iinc 6 1, 3) := by decide +kernel
theorem dX12_worked_128 : decode cX12_worked 128 = .ok (.goto 73, 3) := by decide +kernel
theorem dX12_worked_131 : decode cX12_worked 131 = .ok (.iload 8, 2) := by decide +kernel
theorem dX12_worked_133 : decode cX12_worked 133 = .ok (.sipush 10107, 3) := by decide +kernel
theorem dX12_worked_136 : decode cX12_worked 136 = .ok (.if_icmp .ne 32, 3) := by decide +kernel
theorem dX12_worked_139 : decode cX12_worked 139 = .ok (.aload_n 0, 1) := by decide +kernel
theorem dX12_worked_140 : decode cX12_worked 140 = .ok (.getfield 42, 3) := by decide +kernel
theorem dX12_worked_143 : decode cX12_worked 143 = .ok (.iload 6, 2) := by decide +kernel
theorem dX12_worked_145 : decode cX12_worked 145 = .ok (.iconst 1, 1) := by decide +kernel
theorem dX12_worked_146 : decode cX12_worked 146 = .ok (.isub, 1) := by decide +kernel
theorem dX12_worked_147 : decode cX12_worked 147 = .ok (.aload_n 0, 1) := by decide +kernel
theorem dX12_worked_148 : decode cX12_worked 148 = .ok (.getfield 42, 3) := by decide +kernel
theorem dX12_worked_151 : decode cX12_worked 151 = .ok (.iload 6, 2) := by decide +kernel
theorem dX12_worked_153 : decode cX12_worked 153 = .ok (.iconst 1, 1) := by decide +kernel
theorem dX12_worked_154 : decode cX12_worked 154 = .ok (.isub, 1) := by decide +kernel
theorem dX12_worked_155 : decode cX12_worked 155 = .ok (.iaload, 1) := by decide +kernel
theorem dX12_worked_156 : decode cX12_worked 156 = .ok (.ifCond .ne 7, 3) := by decide +kernel
theorem dX12_worked_159 : decode cX12_worked 159 = .ok (.iconst 1, 1) := by decide +kernel
theorem dX12_worked_160 : decode cX12_worked 160 = .ok (.goto 4, 3) := by decide +kernel
theorem dX12_worked_163 : decode cX12_worked 163 = .ok (.iconst 0, 1) := by decide +kernel
theorem dX12_worked_164 : decode cX12_worked 164 = .ok (.iastore, 1) := by decide +kernel
theorem dX12_worked_165 : decode cX12_worked 165 = .ok (.goto 36, 3) := by decide +kernel
theorem dX12_worked_168 : decode cX12_worked 168 = .ok (.iinc 6 (-1), 3) := by decide +kernel
theorem dX12_worked_171 : decode cX12_worked 171 = .ok (.aload_n 0, 1) := by decide +kernel
theorem dX12_worked_172 : decode cX12_worked 172 = .ok (.getfield 42, 3) := by decide +kernel
theorem dX12_worked_175 : decode cX12_worked 175 = .ok (.iload 6, 2) := by decide +kernel
theorem dX12_worked_177 : decode cX12_worked 177 = .ok (.iconst 1, 1) := by decide +kernel
theorem dX12_worked_178 : decode cX12_worked 178 = .ok (.isub, 1) := by decide +kernel
theorem dX12_worked_179 : decode cX12_worked 179 = .ok (.iload 8, 2) := by decide +kernel
theorem dX12_worked_181 : decode cX12_worked 181 = .ok (.aload_n 0, 1) := by decide +kernel
theorem dX12_worked_182 : decode cX12_worked 182 = .ok (.getfield 42, 3) := by decide +kernel
theorem dX12_worked_185 : decode cX12_worked 185 = .ok (.iload 6, 2) := by decide +kernel
theorem dX12_worked_187 : decode cX12_worked 187 = .ok (.iconst 1, 1) := by decide +kernel
theorem dX12_worked_188 : decode cX12_worked 188 = .ok (.isub, 1) := by decide +kernel
theorem dX12_worked_189 : decode cX12_worked 189 = .ok (.iaload, 1) := by decide +kernel
theorem dX12_worked_190 : decode cX12_worked 190 = .ok (.aload_n 0, 1) := by decide +kernel
theorem dX12_worked_191 : decode cX12_worked 191 = .ok (.getfield 42, 3) := by decide +kernel
theorem dX12_worked_194 : decode cX12_worked 194 = .ok (.iload 6, 2) := by decide +kernel
theorem dX12_worked_196 : decode cX12_worked 196 = .ok (.iaload, 1) := by decide +kernel
theorem dX12_worked_197 : decode cX12_worked 197 = .ok (.invokestatic 291, 3) := by decide +kernel
theorem dX12_worked_200 : decode cX12_worked 200 = .ok (.iastore, 1) := by decide +kernel
theorem dX12_worked_201 : decode cX12_worked 201 = .ok (.iinc 7 1, 3) := by decide +kernel
theorem dX12_worked_204 : decode cX12_worked 204 = .ok (.goto (-188), 3) := by decide +kernel
theorem dX12_worked_207 : decode cX12_worked 207 = .ok (.aload_n 0, 1) := by decide +kernel
theorem dX12_worked_208 : decode cX12_worked 208 = .ok (.getfield 42, 3) := by decide +kernel
theorem dX12_worked_211 : decode cX12_worked 211 = .ok (.iconst 0, 1) := by decide +kernel
theorem dX12_worked_212 : decode cX12_worked 212 = .ok (.iaload, 1) := by decide +kernel
theorem dX12_worked_213 : decode cX12_worked 213 = .ok (.ireturn, 1) := by decide +kernel
theorem dX12_says_0 : decode cX12_says 0 = .ok (.aload_n 0, 1) := by decide +kernel
theorem dX12_says_1 : decode cX12_says 1 = .ok (.iload_n 1, 1) := by decide +kernel
theorem dX12_says_2 : decode cX12_says 2 = .ok (.bipush 8, 2) := by decide +kernel
theorem dX12_says_4 : decode cX12_says 4 = .ok (.invokevirtual 71, 3) := by decide +kernel
theorem dX12_says_7 : decode cX12_says 7 = .ok (.ifCond .eq 15, 3) := by decide +kernel
theorem dX12_says_10 : decode cX12_says 10 = .ok (.aload_n 0, 1) := by decide +kernel
theorem dX12_says_11 : decode cX12_says 11 = .ok (.iload_n 1, 1) := by decide +kernel
theorem dX12_says_12 : decode cX12_says 12 = .ok (.iload_n 2, 1) := by decide +kernel
theorem dX12_says_13 : decode cX12_says 13 = .ok (.iload_n 3, 1) := by decide +kernel
theorem dX12_says_14 : decode cX12_says 14 = .ok (.iload 4, 2) := by decide +kernel
theorem dX12_says_16 : decode cX12_says 16 = .ok (.invokevirtual 143, 3) := by decide +kernel
theorem dX12_says_19 : decode cX12_says 19 = .ok (.goto 9, 3) := by decide +kernel
theorem dX12_says_22 : decode cX12_says 22 = .ok (.aload_n 0, 1) := by decide +kernel
theorem dX12_says_23 : decode cX12_says 23 = .ok (.ldc 57, 2) := by decide +kernel
theorem dX12_says_25 : decode cX12_says 25 = .ok (.invokevirtual 62, 3) := by decide +kernel
theorem dX12_says_28 : decode cX12_says 28 = .ok (.ireturn, 1) := by decide +kernel
theorem dX12_share_0 : decode cX12_share 0 = .ok (.aload_n 0, 1) := by decide +kernel
theorem dX12_share_1 : decode cX12_share 1 = .ok (.iload_n 1, 1) := by decide +kernel
theorem dX12_share_2 : decode cX12_share 2 = .ok (.iconst 3, 1) := by decide +kernel
theorem dX12_share_3 : decode cX12_share 3 = .ok (.invokevirtual 71, 3) := by decide +kernel
theorem dX12_share_6 : decode cX12_share 6 = .ok (.ifCond .eq 14, 3) := by decide +kernel
theorem dX12_share_9 : decode cX12_share 9 = .ok (.iload_n 2, 1) := by decide +kernel
theorem dX12_share_10 : decode cX12_share 10 = .ok (.iconst 0, 1) := by decide +kernel
theorem dX12_share_11 : decode cX12_share 11 = .ok (.sipush 9999, 3) := by decide +kernel
theorem dX12_share_14 : decode cX12_share 14 = .ok (.invokestatic 58, 3) := by decide +kernel
theorem dX12_share_17 : decode cX12_share 17 = .ok (.ifCond .ne 10, 3) := by decide +kernel
theorem dX12_share_20 : decode cX12_share 20 = .ok (.aload_n 0, 1) := by decide +kernel
theorem dX12_share_21 : decode cX12_share 21 = .ok (.ldc 57, 2) := by decide +kernel
theorem dX12_share_23 : decode cX12_share 23 = .ok (.invokevirtual 62, 3) := by decide +kernel
theorem dX12_share_26 : decode cX12_share 26 = .ok (.ireturn, 1) := by decide +kernel
theorem dX12_share_27 : decode cX12_share 27 = .ok (.aload_n 0, 1) := by decide +kernel
theorem dX12_share_28 : decode cX12_share 28 = .ok (.iload_n 1, 1) := by decide +kernel
theorem dX12_share_29 : decode cX12_share 29 = .ok (.iconst 3, 1) := by decide +kernel
theorem dX12_share_30 : decode cX12_share 30 = .ok (.invokevirtual 75, 3) := by decide +kernel
theorem dX12_share_33 : decode cX12_share 33 = .ok (.istore_n 3, 1) := by decide +kernel
theorem dX12_share_34 : decode cX12_share 34 = .ok (.iconst 0, 1) := by decide +kernel
theorem dX12_share_35 : decode cX12_share 35 = .ok (.istore 4, 2) := by decide +kernel
theorem dX12_share_37 : decode cX12_share 37 = .ok (.iconst 0, 1) := by decide +kernel
theorem dX12_share_38 : decode cX12_share 38 = .ok (.istore 5, 2) := by decide +kernel
theorem dX12_share_40 : decode cX12_share 40 = .ok (.iload 5, 2) := by decide +kernel
theorem dX12_share_42 : decode cX12_share 42 = .ok (.bipush 14, 2) := by decide +kernel
theorem dX12_share_44 : decode cX12_share 44 = .ok (.if_icmp .ge 20, 3) := by decide +kernel
theorem dX12_share_47 : decode cX12_share 47 = .ok (.iload 4, 2) := by decide +kernel
theorem dX12_share_49 : decode cX12_share 49 = .ok (.iload_n 3, 1) := by decide +kernel
theorem dX12_share_50 : decode cX12_share 50 = .ok (.iload 5, 2) := by decide +kernel
theorem dX12_share_52 : decode cX12_share 52 = .ok (.ishr, 1) := by decide +kernel
theorem dX12_share_53 : decode cX12_share 53 = .ok (.iconst 1, 1) := by decide +kernel
theorem dX12_share_54 : decode cX12_share 54 = .ok (.iand, 1) := by decide +kernel
theorem dX12_share_55 : decode cX12_share 55 = .ok (.iadd, 1) := by decide +kernel
theorem dX12_share_56 : decode cX12_share 56 = .ok (.istore 4, 2) := by decide +kernel
theorem dX12_share_58 : decode cX12_share 58 = .ok (.iinc 5 1, 3) := by decide +kernel
theorem dX12_share_61 : decode cX12_share 61 = .ok (.goto (-21), 3) := by decide +kernel
theorem dX12_share_64 : decode cX12_share 64 = .ok (.iload 4, 2) := by decide +kernel
theorem dX12_share_66 : decode cX12_share 66 = .ok (.ifCond .ne 11, 3) := by decide +kernel
theorem dX12_share_69 : decode cX12_share 69 = .ok (.aload_n 0, 1) := by decide +kernel
theorem dX12_share_70 : decode cX12_share 70 = .ok (.ldc_w 290, 3) := by decide +kernel
theorem dX12_share_73 : decode cX12_share 73 = .ok (.invokevirtual 62, 3) := by decide +kernel
theorem dX12_share_76 : decode cX12_share 76 = .ok (.ireturn, 1) := by decide +kernel
theorem dX12_share_77 : decode cX12_share 77 = .ok (.iload_n 2, 1) := by decide +kernel
theorem dX12_share_78 : decode cX12_share 78 = .ok (.iload 4, 2) := by decide +kernel
theorem dX12_share_80 : decode cX12_share 80 = .ok (.irem, 1) := by decide +kernel
theorem dX12_share_81 : decode cX12_share 81 = .ok (.istore 5, 2) := by decide +kernel
theorem dX12_share_83 : decode cX12_share 83 = .ok (.iconst 0, 1) := by decide +kernel
theorem dX12_share_84 : decode cX12_share 84 = .ok (.istore 6, 2) := by decide +kernel
theorem dX12_share_86 : decode cX12_share 86 = .ok (.iload 6, 2) := by decide +kernel
theorem dX12_share_88 : decode cX12_share 88 = .ok (.bipush 14, 2) := by decide +kernel
theorem dX12_share_90 : decode cX12_share 90 = .ok (.if_icmp .ge 53, 3) := by decide +kernel
theorem dX12_share_93 : decode cX12_share 93 = .ok (.iload_n 3, 1) := by decide +kernel
theorem dX12_share_94 : decode cX12_share 94 = .ok (.iload 6, 2) := by decide +kernel
theorem dX12_share_96 : decode cX12_share 96 = .ok (.invokestatic 127, 3) := by decide +kernel
theorem dX12_share_99 : decode cX12_share 99 = .ok (.ifCond .eq 38, 3) := by decide +kernel
theorem dX12_share_102 : decode cX12_share 102 = .ok (.aload_n 0, 1) := by decide +kernel
theorem dX12_share_103 : decode cX12_share 103 = .ok (.getfield 9, 3) := by decide +kernel
theorem dX12_share_106 : decode cX12_share 106 = .ok (.bipush 90, 2) := by decide +kernel
theorem dX12_share_108 : decode cX12_share 108 = .ok (.iconst 4, 1) := by decide +kernel
theorem dX12_share_109 : decode cX12_share 109 = .ok (.iload 6, 2) := by decide +kernel
theorem dX12_share_111 : decode cX12_share 111 = .ok (.imul, 1) := by decide +kernel
theorem dX12_share_112 : decode cX12_share 112 = .ok (.iadd, 1) := by decide +kernel
theorem dX12_share_113 : decode cX12_share 113 = .ok (.iconst 3, 1) := by decide +kernel
theorem dX12_share_114 : decode cX12_share 114 = .ok (.iadd, 1) := by decide +kernel
theorem dX12_share_115 : decode cX12_share 115 = .ok (.dup2, 1) := by decide +kernel
theorem dX12_share_116 : decode cX12_share 116 = .ok (.iaload, 1) := by decide +kernel
theorem dX12_share_117 : decode cX12_share 117 = .ok (.iload_n 2, 1) := by decide +kernel
theorem dX12_share_118 : decode cX12_share 118 = .ok (.iload 4, 2) := by decide +kernel
theorem dX12_share_120 : decode cX12_share 120 = .ok (.idiv, 1) := by decide +kernel
theorem dX12_share_121 : decode cX12_share 121 = .ok (.iload 5, 2) := by decide +kernel
theorem dX12_share_123 : decode cX12_share 123 = .ok (.ifCond .le 7, 3) := by decide +kernel
theorem dX12_share_126 : decode cX12_share 126 = .ok (.iconst 1, 1) := by decide +kernel
theorem dX12_share_127 : decode cX12_share 127 = .ok (.goto 4, 3) := by decide +kernel
theorem dX12_share_130 : decode cX12_share 130 = .ok (.iconst 0, 1) := by decide +kernel
theorem dX12_share_131 : decode cX12_share 131 = .ok (.iadd, 1) := by decide +kernel
theorem dX12_share_132 : decode cX12_share 132 = .ok (.iadd, 1) := by decide +kernel
theorem dX12_share_133 : decode cX12_share 133 = .ok (.iastore, 1) := by decide +kernel
theorem dX12_share_134 : decode cX12_share 134 = .ok (.iinc 5 (-1), 3) := by decide +kernel
theorem dX12_share_137 : decode cX12_share 137 = .ok (.iinc 6 1, 3) := by decide +kernel
theorem dX12_share_140 : decode cX12_share 140 = .ok (.goto (-54), 3) := by decide +kernel
theorem dX12_share_143 : decode cX12_share 143 = .ok (.iload 4, 2) := by decide +kernel
theorem dX12_share_145 : decode cX12_share 145 = .ok (.ireturn, 1) := by decide +kernel
theorem dX12_pay_0 : decode cX12_pay 0 = .ok (.aload_n 0, 1) := by decide +kernel
theorem dX12_pay_1 : decode cX12_pay 1 = .ok (.iload_n 1, 1) := by decide +kernel
theorem dX12_pay_2 : decode cX12_pay 2 = .ok (.iconst 4, 1) := by decide +kernel
theorem dX12_pay_3 : decode cX12_pay 3 = .ok (.invokevirtual 71, 3) := by decide +kernel
theorem dX12_pay_6 : decode cX12_pay 6 = .ok (.ifCond .eq 14, 3) := by decide +kernel
theorem dX12_pay_9 : decode cX12_pay 9 = .ok (.iload_n 2, 1) := by decide +kernel
theorem dX12_pay_10 : decode cX12_pay 10 = .ok (.iconst 1, 1) := by decide +kernel
theorem dX12_pay_11 : decode cX12_pay 11 = .ok (.ldc_w 295, 3) := by decide +kernel
theorem dX12_pay_14 : decode cX12_pay 14 = .ok (.invokestatic 58, 3) := by decide +kernel
theorem dX12_pay_17 : decode cX12_pay 17 = .ok (.ifCond .ne 10, 3) := by decide +kernel
theorem dX12_pay_20 : decode cX12_pay 20 = .ok (.aload_n 0, 1) := by decide +kernel
theorem dX12_pay_21 : decode cX12_pay 21 = .ok (.ldc 57, 2) := by decide +kernel
theorem dX12_pay_23 : decode cX12_pay 23 = .ok (.invokevirtual 62, 3) := by decide +kernel
theorem dX12_pay_26 : decode cX12_pay 26 = .ok (.ireturn, 1) := by decide +kernel
theorem dX12_pay_27 : decode cX12_pay 27 = .ok (.aload_n 0, 1) := by decide +kernel
theorem dX12_pay_28 : decode cX12_pay 28 = .ok (.iload_n 1, 1) := by decide +kernel
theorem dX12_pay_29 : decode cX12_pay 29 = .ok (.iconst 3, 1) := by decide +kernel
theorem dX12_pay_30 : decode cX12_pay 30 = .ok (.invokevirtual 82, 3) := by decide +kernel
theorem dX12_pay_33 : decode cX12_pay 33 = .ok (.istore_n 3, 1) := by decide +kernel
theorem dX12_pay_34 : decode cX12_pay 34 = .ok (.iload_n 3, 1) := by decide +kernel
theorem dX12_pay_35 : decode cX12_pay 35 = .ok (.iload_n 2, 1) := by decide +kernel
theorem dX12_pay_36 : decode cX12_pay 36 = .ok (.if_icmp .ge 10, 3) := by decide +kernel
theorem dX12_pay_39 : decode cX12_pay 39 = .ok (.aload_n 0, 1) := by decide +kernel
theorem dX12_pay_40 : decode cX12_pay 40 = .ok (.ldc 95, 2) := by decide +kernel
theorem dX12_pay_42 : decode cX12_pay 42 = .ok (.invokevirtual 62, 3) := by decide +kernel
theorem dX12_pay_45 : decode cX12_pay 45 = .ok (.ireturn, 1) := by decide +kernel
theorem dX12_pay_46 : decode cX12_pay 46 = .ok (.aload_n 0, 1) := by decide +kernel
theorem dX12_pay_47 : decode cX12_pay 47 = .ok (.getfield 9, 3) := by decide +kernel
theorem dX12_pay_50 : decode cX12_pay 50 = .ok (.bipush 90, 2) := by decide +kernel
theorem dX12_pay_52 : decode cX12_pay 52 = .ok (.iconst 4, 1) := by decide +kernel
theorem dX12_pay_53 : decode cX12_pay 53 = .ok (.iload_n 1, 1) := by decide +kernel
theorem dX12_pay_54 : decode cX12_pay 54 = .ok (.imul, 1) := by decide +kernel
theorem dX12_pay_55 : decode cX12_pay 55 = .ok (.iadd, 1) := by decide +kernel
theorem dX12_pay_56 : decode cX12_pay 56 = .ok (.iconst 3, 1) := by decide +kernel
theorem dX12_pay_57 : decode cX12_pay 57 = .ok (.iadd, 1) := by decide +kernel
theorem dX12_pay_58 : decode cX12_pay 58 = .ok (.iload_n 3, 1) := by decide +kernel
theorem dX12_pay_59 : decode cX12_pay 59 = .ok (.iload_n 2, 1) := by decide +kernel
theorem dX12_pay_60 : decode cX12_pay 60 = .ok (.isub, 1) := by decide +kernel
theorem dX12_pay_61 : decode cX12_pay 61 = .ok (.iastore, 1) := by decide +kernel
theorem dX12_pay_62 : decode cX12_pay 62 = .ok (.iload_n 3, 1) := by decide +kernel
theorem dX12_pay_63 : decode cX12_pay 63 = .ok (.iload_n 2, 1) := by decide +kernel
theorem dX12_pay_64 : decode cX12_pay 64 = .ok (.isub, 1) := by decide +kernel
theorem dX12_pay_65 : decode cX12_pay 65 = .ok (.ireturn, 1) := by decide +kernel
theorem dX12_isSheet_0 : decode cX12_isSheet 0 = .ok (.iload_n 0, 1) := by decide +kernel
theorem dX12_isSheet_1 : decode cX12_isSheet 1 = .ok (.iconst 0, 1) := by decide +kernel
theorem dX12_isSheet_2 : decode cX12_isSheet 2 = .ok (.iconst 3, 1) := by decide +kernel
theorem dX12_isSheet_3 : decode cX12_isSheet 3 = .ok (.invokestatic 58, 3) := by decide +kernel
theorem dX12_isSheet_6 : decode cX12_isSheet 6 = .ok (.ireturn, 1) := by decide +kernel
theorem dX12_check_0 : decode cX12_check 0 = .ok (.iload_n 1, 1) := by decide +kernel
theorem dX12_check_1 : decode cX12_check 1 = .ok (.invokestatic 296, 3) := by decide +kernel
theorem dX12_check_4 : decode cX12_check 4 = .ok (.ifCond .ne 10, 3) := by decide +kernel
theorem dX12_check_7 : decode cX12_check 7 = .ok (.aload_n 0, 1) := by decide +kernel
theorem dX12_check_8 : decode cX12_check 8 = .ok (.ldc 57, 2) := by decide +kernel
theorem dX12_check_10 : decode cX12_check 10 = .ok (.invokevirtual 62, 3) := by decide +kernel
theorem dX12_check_13 : decode cX12_check 13 = .ok (.ireturn, 1) := by decide +kernel
theorem dX12_check_14 : decode cX12_check 14 = .ok (.aload_n 0, 1) := by decide +kernel
theorem dX12_check_15 : decode cX12_check 15 = .ok (.getfield 45, 3) := by decide +kernel
theorem dX12_check_18 : decode cX12_check 18 = .ok (.iload_n 1, 1) := by decide +kernel
theorem dX12_check_19 : decode cX12_check 19 = .ok (.iaload, 1) := by decide +kernel
theorem dX12_check_20 : decode cX12_check 20 = .ok (.ifCond .ne 11, 3) := by decide +kernel
theorem dX12_check_23 : decode cX12_check 23 = .ok (.aload_n 0, 1) := by decide +kernel
theorem dX12_check_24 : decode cX12_check 24 = .ok (.ldc_w 299, 3) := by decide +kernel
theorem dX12_check_27 : decode cX12_check 27 = .ok (.invokevirtual 62, 3) := by decide +kernel
theorem dX12_check_30 : decode cX12_check 30 = .ok (.ireturn, 1) := by decide +kernel
theorem dX12_check_31 : decode cX12_check 31 = .ok (.aload_n 0, 1) := by decide +kernel
theorem dX12_check_32 : decode cX12_check 32 = .ok (.getfield 9, 3) := by decide +kernel
theorem dX12_check_35 : decode cX12_check 35 = .ok (.aload_n 0, 1) := by decide +kernel
theorem dX12_check_36 : decode cX12_check 36 = .ok (.getfield 16, 3) := by decide +kernel
theorem dX12_check_39 : decode cX12_check 39 = .ok (.invokestatic 200, 3) := by decide +kernel
theorem dX12_check_42 : decode cX12_check 42 = .ok (.iconst 0, 1) := by decide +kernel
theorem dX12_check_43 : decode cX12_check 43 = .ok (.istore_n 2, 1) := by decide +kernel
theorem dX12_check_44 : decode cX12_check 44 = .ok (.iload_n 2, 1) := by decide +kernel
theorem dX12_check_45 : decode cX12_check 45 = .ok (.aload_n 0, 1) := by decide +kernel
theorem dX12_check_46 : decode cX12_check 46 = .ok (.getfield 48, 3) := by decide +kernel
theorem dX12_check_49 : decode cX12_check 49 = .ok (.iload_n 1, 1) := by decide +kernel
theorem dX12_check_50 : decode cX12_check 50 = .ok (.iaload, 1) := by decide +kernel
theorem dX12_check_51 : decode cX12_check 51 = .ok (.if_icmp .ge 27, 3) := by decide +kernel
theorem dX12_check_54 : decode cX12_check 54 = .ok (.aload_n 0, 1) := by decide +kernel
theorem dX12_check_55 : decode cX12_check 55 = .ok (.invokevirtual 197, 3) := by decide +kernel
theorem dX12_check_58 : decode cX12_check 58 = .ok (.aload_n 0, 1) := by decide +kernel
theorem dX12_check_59 : decode cX12_check 59 = .ok (.getfield 51, 3) := by decide +kernel
theorem dX12_check_62 : decode cX12_check 62 = .ok (.bipush 24, 2) := by decide +kernel
theorem dX12_check_64 : decode cX12_check 64 = .ok (.iload_n 1, 1) := by decide +kernel
theorem dX12_check_65 : decode cX12_check 65 = .ok (.imul, 1) := by decide +kernel
theorem dX12_check_66 : decode cX12_check 66 = .ok (.iload_n 2, 1) := by decide +kernel
theorem dX12_check_67 : decode cX12_check 67 = .ok (.iadd, 1) := by decide +kernel
theorem dX12_check_68 : decode cX12_check 68 = .ok (.iaload, 1) := by decide +kernel
theorem dX12_check_69 : decode cX12_check 69 = .ok (.if_icmp .ne 9, 3) := by decide +kernel
theorem dX12_check_72 : decode cX12_check 72 = .ok (.iinc 2 1, 3) := by decide +kernel
theorem dX12_check_75 : decode cX12_check 75 = .ok (.goto (-31), 3) := by decide +kernel
theorem dX12_check_78 : decode cX12_check 78 = .ok (.aload_n 0, 1) := by decide +kernel
theorem dX12_check_79 : decode cX12_check 79 = .ok (.getfield 16, 3) := by decide +kernel
theorem dX12_check_82 : decode cX12_check 82 = .ok (.aload_n 0, 1) := by decide +kernel
theorem dX12_check_83 : decode cX12_check 83 = .ok (.getfield 9, 3) := by decide +kernel
theorem dX12_check_86 : decode cX12_check 86 = .ok (.invokestatic 200, 3) := by decide +kernel
theorem dX12_check_89 : decode cX12_check 89 = .ok (.iload_n 2, 1) := by decide +kernel
theorem dX12_check_90 : decode cX12_check 90 = .ok (.ireturn, 1) := by decide +kernel
theorem dX12_cut_0 : decode cX12_cut 0 = .ok (.iload_n 1, 1) := by decide +kernel
theorem dX12_cut_1 : decode cX12_cut 1 = .ok (.bipush 8, 2) := by decide +kernel
theorem dX12_cut_3 : decode cX12_cut 3 = .ok (.if_icmp .ne 8, 3) := by decide +kernel
theorem dX12_cut_6 : decode cX12_cut 6 = .ok (.iload_n 0, 1) := by decide +kernel
theorem dX12_cut_7 : decode cX12_cut 7 = .ok (.i2b, 1) := by decide +kernel
theorem dX12_cut_8 : decode cX12_cut 8 = .ok (.goto 15, 3) := by decide +kernel
theorem dX12_cut_11 : decode cX12_cut 11 = .ok (.iload_n 1, 1) := by decide +kernel
theorem dX12_cut_12 : decode cX12_cut 12 = .ok (.bipush 16, 2) := by decide +kernel
theorem dX12_cut_14 : decode cX12_cut 14 = .ok (.if_icmp .ne 8, 3) := by decide +kernel
theorem dX12_cut_17 : decode cX12_cut 17 = .ok (.iload_n 0, 1) := by decide +kernel
theorem dX12_cut_18 : decode cX12_cut 18 = .ok (.i2s, 1) := by decide +kernel
theorem dX12_cut_19 : decode cX12_cut 19 = .ok (.goto 4, 3) := by decide +kernel
theorem dX12_cut_22 : decode cX12_cut 22 = .ok (.iload_n 0, 1) := by decide +kernel
theorem dX12_cut_23 : decode cX12_cut 23 = .ok (.ireturn, 1) := by decide +kernel
theorem dX12_sheet_0 : decode cX12_sheet 0 = .ok (.iload_n 1, 1) := by decide +kernel
theorem dX12_sheet_1 : decode cX12_sheet 1 = .ok (.invokestatic 296, 3) := by decide +kernel
theorem dX12_sheet_4 : decode cX12_sheet 4 = .ok (.ifCond .eq 25, 3) := by decide +kernel
theorem dX12_sheet_7 : decode cX12_sheet 7 = .ok (.iload_n 2, 1) := by decide +kernel
theorem dX12_sheet_8 : decode cX12_sheet 8 = .ok (.ifCond .eq 28, 3) := by decide +kernel
theorem dX12_sheet_11 : decode cX12_sheet 11 = .ok (.iload_n 2, 1) := by decide +kernel
theorem dX12_sheet_12 : decode cX12_sheet 12 = .ok (.bipush 8, 2) := by decide +kernel
theorem dX12_sheet_14 : decode cX12_sheet 14 = .ok (.if_icmp .eq 22, 3) := by decide +kernel
theorem dX12_sheet_17 : decode cX12_sheet 17 = .ok (.iload_n 2, 1) := by decide +kernel
theorem dX12_sheet_18 : decode cX12_sheet 18 = .ok (.bipush 16, 2) := by decide +kernel
theorem dX12_sheet_20 : decode cX12_sheet 20 = .ok (.if_icmp .eq 16, 3) := by decide +kernel
theorem dX12_sheet_23 : decode cX12_sheet 23 = .ok (.iload_n 2, 1) := by decide +kernel
theorem dX12_sheet_24 : decode cX12_sheet 24 = .ok (.bipush 32, 2) := by decide +kernel
theorem dX12_sheet_26 : decode cX12_sheet 26 = .ok (.if_icmp .eq 10, 3) := by decide +kernel
theorem dX12_sheet_29 : decode cX12_sheet 29 = .ok (.aload_n 0, 1) := by decide +kernel
theorem dX12_sheet_30 : decode cX12_sheet 30 = .ok (.ldc 57, 2) := by decide +kernel
theorem dX12_sheet_32 : decode cX12_sheet 32 = .ok (.invokevirtual 62, 3) := by decide +kernel
theorem dX12_sheet_35 : decode cX12_sheet 35 = .ok (.ireturn, 1) := by decide +kernel
theorem dX12_sheet_36 : decode cX12_sheet 36 = .ok (.iload_n 3, 1) := by decide +kernel
theorem dX12_sheet_37 : decode cX12_sheet 37 = .ok (.ifCond .ge 11, 3) := by decide +kernel
theorem dX12_sheet_40 : decode cX12_sheet 40 = .ok (.aload_n 0, 1) := by decide +kernel
theorem dX12_sheet_41 : decode cX12_sheet 41 = .ok (.ldc_w 300, 3) := by decide +kernel
theorem dX12_sheet_44 : decode cX12_sheet 44 = .ok (.invokevirtual 62, 3) := by decide +kernel
theorem dX12_sheet_47 : decode cX12_sheet 47 = .ok (.ireturn, 1) := by decide +kernel
theorem dX12_sheet_48 : decode cX12_sheet 48 = .ok (.iload_n 3, 1) := by decide +kernel
theorem dX12_sheet_49 : decode cX12_sheet 49 = .ok (.bipush 24, 2) := by decide +kernel
theorem dX12_sheet_51 : decode cX12_sheet 51 = .ok (.if_icmp .le 10, 3) := by decide +kernel
theorem dX12_sheet_54 : decode cX12_sheet 54 = .ok (.aload_n 0, 1) := by decide +kernel
theorem dX12_sheet_55 : decode cX12_sheet 55 = .ok (.ldc 57, 2) := by decide +kernel
theorem dX12_sheet_57 : decode cX12_sheet 57 = .ok (.invokevirtual 62, 3) := by decide +kernel
theorem dX12_sheet_60 : decode cX12_sheet 60 = .ok (.ireturn, 1) := by decide +kernel
theorem dX12_sheet_61 : decode cX12_sheet 61 = .ok (.aload_n 0, 1) := by decide +kernel
theorem dX12_sheet_62 : decode cX12_sheet 62 = .ok (.getfield 45, 3) := by decide +kernel
theorem dX12_sheet_65 : decode cX12_sheet 65 = .ok (.iload_n 1, 1) := by decide +kernel
theorem dX12_sheet_66 : decode cX12_sheet 66 = .ok (.iload_n 2, 1) := by decide +kernel
theorem dX12_sheet_67 : decode cX12_sheet 67 = .ok (.iastore, 1) := by decide +kernel
theorem dX12_sheet_68 : decode cX12_sheet 68 = .ok (.aload_n 0, 1) := by decide +kernel
theorem dX12_sheet_69 : decode cX12_sheet 69 = .ok (.getfield 48, 3) := by decide +kernel
theorem dX12_sheet_72 : decode cX12_sheet 72 = .ok (.iload_n 1, 1) := by decide +kernel
theorem dX12_sheet_73 : decode cX12_sheet 73 = .ok (.iload_n 2, 1) := by decide +kernel
theorem dX12_sheet_74 : decode cX12_sheet 74 = .ok (.ifCond .ne 7, 3) := by decide +kernel
theorem dX12_sheet_77 : decode cX12_sheet 77 = .ok (.iconst 0, 1) := by decide +kernel
theorem dX12_sheet_78 : decode cX12_sheet 78 = .ok (.goto 4, 3) := by decide +kernel
theorem dX12_sheet_81 : decode cX12_sheet 81 = .ok (.iload_n 3, 1) := by decide +kernel
theorem dX12_sheet_82 : decode cX12_sheet 82 = .ok (.iastore, 1) := by decide +kernel
theorem dX12_sheet_83 : decode cX12_sheet 83 = .ok (.iconst 0, 1) := by decide +kernel
theorem dX12_sheet_84 : decode cX12_sheet 84 = .ok (.istore 4, 2) := by decide +kernel
theorem dX12_sheet_86 : decode cX12_sheet 86 = .ok (.iload 4, 2) := by decide +kernel
theorem dX12_sheet_88 : decode cX12_sheet 88 = .ok (.bipush 24, 2) := by decide +kernel
theorem dX12_sheet_90 : decode cX12_sheet 90 = .ok (.if_icmp .ge 22, 3) := by decide +kernel
theorem dX12_sheet_93 : decode cX12_sheet 93 = .ok (.aload_n 0, 1) := by decide +kernel
theorem dX12_sheet_94 : decode cX12_sheet 94 = .ok (.getfield 51, 3) := by decide +kernel
theorem dX12_sheet_97 : decode cX12_sheet 97 = .ok (.bipush 24, 2) := by decide +kernel
theorem dX12_sheet_99 : decode cX12_sheet 99 = .ok (.iload_n 1, 1) := by decide +kernel
theorem dX12_sheet_100 : decode cX12_sheet 100 = .ok (.imul, 1) := by decide +kernel
theorem dX12_sheet_101 : decode cX12_sheet 101 = .ok (.iload 4, 2) := by decide +kernel
theorem dX12_sheet_103 : decode cX12_sheet 103 = .ok (.iadd, 1) := by decide +kernel
theorem dX12_sheet_104 : decode cX12_sheet 104 = .ok (.iconst 0, 1) := by decide +kernel
theorem dX12_sheet_105 : decode cX12_sheet 105 = .ok (.iastore, 1) := by decide +kernel
theorem dX12_sheet_106 : decode cX12_sheet 106 = .ok (.iinc 4 1, 3) := by decide +kernel
theorem dX12_sheet_109 : decode cX12_sheet 109 = .ok (.goto (-23), 3) := by decide +kernel
theorem dX12_sheet_112 : decode cX12_sheet 112 = .ok (.aload_n 0, 1) := by decide +kernel
theorem dX12_sheet_113 : decode cX12_sheet 113 = .ok (.getfield 48, 3) := by decide +kernel
theorem dX12_sheet_116 : decode cX12_sheet 116 = .ok (.iload_n 1, 1) := by decide +kernel
theorem dX12_sheet_117 : decode cX12_sheet 117 = .ok (.iaload, 1) := by decide +kernel
theorem dX12_sheet_118 : decode cX12_sheet 118 = .ok (.ireturn, 1) := by decide +kernel
theorem dX12_write_0 : decode cX12_write 0 = .ok (.iload_n 1, 1) := by decide +kernel
theorem dX12_write_1 : decode cX12_write 1 = .ok (.invokestatic 296, 3) := by decide +kernel
theorem dX12_write_4 : decode cX12_write 4 = .ok (.ifCond .ne 10, 3) := by decide +kernel
theorem dX12_write_7 : decode cX12_write 7 = .ok (.aload_n 0, 1) := by decide +kernel
theorem dX12_write_8 : decode cX12_write 8 = .ok (.ldc 57, 2) := by decide +kernel
theorem dX12_write_10 : decode cX12_write 10 = .ok (.invokevirtual 62, 3) := by decide +kernel
theorem dX12_write_13 : decode cX12_write 13 = .ok (.ireturn, 1) := by decide +kernel
theorem dX12_write_14 : decode cX12_write 14 = .ok (.aload_n 0, 1) := by decide +kernel
theorem dX12_write_15 : decode cX12_write 15 = .ok (.getfield 45, 3) := by decide +kernel
theorem dX12_write_18 : decode cX12_write 18 = .ok (.iload_n 1, 1) := by decide +kernel
theorem dX12_write_19 : decode cX12_write 19 = .ok (.iaload, 1) := by decide +kernel
theorem dX12_write_20 : decode cX12_write 20 = .ok (.ifCond .ne 11, 3) := by decide +kernel
theorem dX12_write_23 : decode cX12_write 23 = .ok (.aload_n 0, 1) := by decide +kernel
theorem dX12_write_24 : decode cX12_write 24 = .ok (.ldc_w 299, 3) := by decide +kernel
theorem dX12_write_27 : decode cX12_write 27 = .ok (.invokevirtual 62, 3) := by decide +kernel
theorem dX12_write_30 : decode cX12_write 30 = .ok (.ireturn, 1) := by decide +kernel
theorem dX12_write_31 : decode cX12_write 31 = .ok (.iload_n 2, 1) := by decide +kernel
theorem dX12_write_32 : decode cX12_write 32 = .ok (.iconst 0, 1) := by decide +kernel
theorem dX12_write_33 : decode cX12_write 33 = .ok (.aload_n 0, 1) := by decide +kernel
theorem dX12_write_34 : decode cX12_write 34 = .ok (.getfield 48, 3) := by decide +kernel
theorem dX12_write_37 : decode cX12_write 37 = .ok (.iload_n 1, 1) := by decide +kernel
theorem dX12_write_38 : decode cX12_write 38 = .ok (.iaload, 1) := by decide +kernel
theorem dX12_write_39 : decode cX12_write 39 = .ok (.iconst 1, 1) := by decide +kernel
theorem dX12_write_40 : decode cX12_write 40 = .ok (.isub, 1) := by decide +kernel
theorem dX12_write_41 : decode cX12_write 41 = .ok (.invokestatic 58, 3) := by decide +kernel
theorem dX12_write_44 : decode cX12_write 44 = .ok (.ifCond .ne 10, 3) := by decide +kernel
theorem dX12_write_47 : decode cX12_write 47 = .ok (.aload_n 0, 1) := by decide +kernel
theorem dX12_write_48 : decode cX12_write 48 = .ok (.ldc 57, 2) := by decide +kernel
theorem dX12_write_50 : decode cX12_write 50 = .ok (.invokevirtual 62, 3) := by decide +kernel
theorem dX12_write_53 : decode cX12_write 53 = .ok (.ireturn, 1) := by decide +kernel
theorem dX12_write_54 : decode cX12_write 54 = .ok (.aload_n 0, 1) := by decide +kernel
theorem dX12_write_55 : decode cX12_write 55 = .ok (.getfield 51, 3) := by decide +kernel
theorem dX12_write_58 : decode cX12_write 58 = .ok (.bipush 24, 2) := by decide +kernel
theorem dX12_write_60 : decode cX12_write 60 = .ok (.iload_n 1, 1) := by decide +kernel
theorem dX12_write_61 : decode cX12_write 61 = .ok (.imul, 1) := by decide +kernel
theorem dX12_write_62 : decode cX12_write 62 = .ok (.iload_n 2, 1) := by decide +kernel
theorem dX12_write_63 : decode cX12_write 63 = .ok (.iadd, 1) := by decide +kernel
theorem dX12_write_64 : decode cX12_write 64 = .ok (.iload_n 3, 1) := by decide +kernel
theorem dX12_write_65 : decode cX12_write 65 = .ok (.aload_n 0, 1) := by decide +kernel
theorem dX12_write_66 : decode cX12_write 66 = .ok (.getfield 45, 3) := by decide +kernel
theorem dX12_write_69 : decode cX12_write 69 = .ok (.iload_n 1, 1) := by decide +kernel
theorem dX12_write_70 : decode cX12_write 70 = .ok (.iaload, 1) := by decide +kernel
theorem dX12_write_71 : decode cX12_write 71 = .ok (.invokestatic 301, 3) := by decide +kernel
theorem dX12_write_74 : decode cX12_write 74 = .ok (.iastore, 1) := by decide +kernel
theorem dX12_write_75 : decode cX12_write 75 = .ok (.iconst 1, 1) := by decide +kernel
theorem dX12_write_76 : decode cX12_write 76 = .ok (.ireturn, 1) := by decide +kernel
theorem dX12_copy_0 : decode cX12_copy 0 = .ok (.iload_n 1, 1) := by decide +kernel
theorem dX12_copy_1 : decode cX12_copy 1 = .ok (.invokestatic 296, 3) := by decide +kernel
theorem dX12_copy_4 : decode cX12_copy 4 = .ok (.ifCond .eq 10, 3) := by decide +kernel
theorem dX12_copy_7 : decode cX12_copy 7 = .ok (.iload_n 3, 1) := by decide +kernel
theorem dX12_copy_8 : decode cX12_copy 8 = .ok (.invokestatic 296, 3) := by decide +kernel
theorem dX12_copy_11 : decode cX12_copy 11 = .ok (.ifCond .ne 10, 3) := by decide +kernel
theorem dX12_copy_14 : decode cX12_copy 14 = .ok (.aload_n 0, 1) := by decide +kernel
theorem dX12_copy_15 : decode cX12_copy 15 = .ok (.ldc 57, 2) := by decide +kernel
theorem dX12_copy_17 : decode cX12_copy 17 = .ok (.invokevirtual 62, 3) := by decide +kernel
theorem dX12_copy_20 : decode cX12_copy 20 = .ok (.ireturn, 1) := by decide +kernel
theorem dX12_copy_21 : decode cX12_copy 21 = .ok (.aload_n 0, 1) := by decide +kernel
theorem dX12_copy_22 : decode cX12_copy 22 = .ok (.getfield 45, 3) := by decide +kernel
theorem dX12_copy_25 : decode cX12_copy 25 = .ok (.iload_n 1, 1) := by decide +kernel
theorem dX12_copy_26 : decode cX12_copy 26 = .ok (.iaload, 1) := by decide +kernel
theorem dX12_copy_27 : decode cX12_copy 27 = .ok (.ifCond .eq 12, 3) := by decide +kernel
theorem dX12_copy_30 : decode cX12_copy 30 = .ok (.aload_n 0, 1) := by decide +kernel
theorem dX12_copy_31 : decode cX12_copy 31 = .ok (.getfield 45, 3) := by decide +kernel
theorem dX12_copy_34 : decode cX12_copy 34 = .ok (.iload_n 3, 1) := by decide +kernel
theorem dX12_copy_35 : decode cX12_copy 35 = .ok (.iaload, 1) := by decide +kernel
theorem dX12_copy_36 : decode cX12_copy 36 = .ok (.ifCond .ne 11, 3) := by decide +kernel
theorem dX12_copy_39 : decode cX12_copy 39 = .ok (.aload_n 0, 1) := by decide +kernel
theorem dX12_copy_40 : decode cX12_copy 40 = .ok (.ldc_w 299, 3) := by decide +kernel
theorem dX12_copy_43 : decode cX12_copy 43 = .ok (.invokevirtual 62, 3) := by decide +kernel
theorem dX12_copy_46 : decode cX12_copy 46 = .ok (.ireturn, 1) := by decide +kernel
theorem dX12_copy_47 : decode cX12_copy 47 = .ok (.aload_n 0, 1) := by decide +kernel
theorem dX12_copy_48 : decode cX12_copy 48 = .ok (.getfield 45, 3) := by decide +kernel
theorem dX12_copy_51 : decode cX12_copy 51 = .ok (.iload_n 1, 1) := by decide +kernel
theorem dX12_copy_52 : decode cX12_copy 52 = .ok (.iaload, 1) := by decide +kernel
theorem dX12_copy_53 : decode cX12_copy 53 = .ok (.aload_n 0, 1) := by decide +kernel
theorem dX12_copy_54 : decode cX12_copy 54 = .ok (.getfield 45, 3) := by decide +kernel
theorem dX12_copy_57 : decode cX12_copy 57 = .ok (.iload_n 3, 1) := by decide +kernel
theorem dX12_copy_58 : decode cX12_copy 58 = .ok (.iaload, 1) := by decide +kernel
theorem dX12_copy_59 : decode cX12_copy 59 = .ok (.if_icmp .eq 10, 3) := by decide +kernel
theorem dX12_copy_62 : decode cX12_copy 62 = .ok (.aload_n 0, 1) := by decide +kernel
theorem dX12_copy_63 : decode cX12_copy 63 = .ok (.ldc 126, 2) := by decide +kernel
theorem dX12_copy_65 : decode cX12_copy 65 = .ok (.invokevirtual 62, 3) := by decide +kernel
theorem dX12_copy_68 : decode cX12_copy 68 = .ok (.ireturn, 1) := by decide +kernel
theorem dX12_copy_69 : decode cX12_copy 69 = .ok (.iload_n 2, 1) := by decide +kernel
theorem dX12_copy_70 : decode cX12_copy 70 = .ok (.ifCond .lt 48, 3) := by decide +kernel
theorem dX12_copy_73 : decode cX12_copy 73 = .ok (.iload 4, 2) := by decide +kernel
theorem dX12_copy_75 : decode cX12_copy 75 = .ok (.ifCond .lt 43, 3) := by decide +kernel
theorem dX12_copy_78 : decode cX12_copy 78 = .ok (.iload 5, 2) := by decide +kernel
theorem dX12_copy_80 : decode cX12_copy 80 = .ok (.ifCond .lt 38, 3) := by decide +kernel
theorem dX12_copy_83 : decode cX12_copy 83 = .ok (.iload_n 2, 1) := by decide +kernel
theorem dX12_copy_84 : decode cX12_copy 84 = .ok (.i2l, 1) := by decide +kernel
theorem dX12_copy_85 : decode cX12_copy 85 = .ok (.iload 5, 2) := by decide +kernel
theorem dX12_copy_87 : decode cX12_copy 87 = .ok (.i2l, 1) := by decide +kernel
theorem dX12_copy_88 : decode cX12_copy 88 = .ok (.ladd, 1) := by decide +kernel
theorem dX12_copy_89 : decode cX12_copy 89 = .ok (.aload_n 0, 1) := by decide +kernel
theorem dX12_copy_90 : decode cX12_copy 90 = .ok (.getfield 48, 3) := by decide +kernel
theorem dX12_copy_93 : decode cX12_copy 93 = .ok (.iload_n 1, 1) := by decide +kernel
theorem dX12_copy_94 : decode cX12_copy 94 = .ok (.iaload, 1) := by decide +kernel
theorem dX12_copy_95 : decode cX12_copy 95 = .ok (.i2l, 1) := by decide +kernel
theorem dX12_copy_96 : decode cX12_copy 96 = .ok (.lcmp, 1) := by decide +kernel
theorem dX12_copy_97 : decode cX12_copy 97 = .ok (.ifCond .gt 21, 3) := by decide +kernel
theorem dX12_copy_100 : decode cX12_copy 100 = .ok (.iload 4, 2) := by decide +kernel
theorem dX12_copy_102 : decode cX12_copy 102 = .ok (.i2l, 1) := by decide +kernel
theorem dX12_copy_103 : decode cX12_copy 103 = .ok (.iload 5, 2) := by decide +kernel
theorem dX12_copy_105 : decode cX12_copy 105 = .ok (.i2l, 1) := by decide +kernel
theorem dX12_copy_106 : decode cX12_copy 106 = .ok (.ladd, 1) := by decide +kernel
theorem dX12_copy_107 : decode cX12_copy 107 = .ok (.aload_n 0, 1) := by decide +kernel
theorem dX12_copy_108 : decode cX12_copy 108 = .ok (.getfield 48, 3) := by decide +kernel
theorem dX12_copy_111 : decode cX12_copy 111 = .ok (.iload_n 3, 1) := by decide +kernel
theorem dX12_copy_112 : decode cX12_copy 112 = .ok (.iaload, 1) := by decide +kernel
theorem dX12_copy_113 : decode cX12_copy 113 = .ok (.i2l, 1) := by decide +kernel
theorem dX12_copy_114 : decode cX12_copy 114 = .ok (.lcmp, 1) := by decide +kernel
theorem dX12_copy_115 : decode cX12_copy 115 = .ok (.ifCond .le 10, 3) := by decide +kernel
theorem dX12_copy_118 : decode cX12_copy 118 = .ok (.aload_n 0, 1) := by decide +kernel
theorem dX12_copy_119 : decode cX12_copy 119 = .ok (.ldc 57, 2) := by decide +kernel
theorem dX12_copy_121 : decode cX12_copy 121 = .ok (.invokevirtual 62, 3) := by decide +kernel
theorem dX12_copy_124 : decode cX12_copy 124 = .ok (.ireturn, 1) := by decide +kernel
theorem dX12_copy_125 : decode cX12_copy 125 = .ok (.iconst 0, 1) := by decide +kernel
theorem dX12_copy_126 : decode cX12_copy 126 = .ok (.istore 6, 2) := by decide +kernel
theorem dX12_copy_128 : decode cX12_copy 128 = .ok (.iload 6, 2) := by decide +kernel
theorem dX12_copy_130 : decode cX12_copy 130 = .ok (.iload 5, 2) := by decide +kernel
theorem dX12_copy_132 : decode cX12_copy 132 = .ok (.if_icmp .ge 30, 3) := by decide +kernel
theorem dX12_copy_135 : decode cX12_copy 135 = .ok (.aload_n 0, 1) := by decide +kernel
theorem dX12_copy_136 : decode cX12_copy 136 = .ok (.getfield 54, 3) := by decide +kernel
theorem dX12_copy_139 : decode cX12_copy 139 = .ok (.iload 6, 2) := by decide +kernel
theorem dX12_copy_141 : decode cX12_copy 141 = .ok (.aload_n 0, 1) := by decide +kernel
theorem dX12_copy_142 : decode cX12_copy 142 = .ok (.getfield 51, 3) := by decide +kernel
theorem dX12_copy_145 : decode cX12_copy 145 = .ok (.bipush 24, 2) := by decide +kernel
theorem dX12_copy_147 : decode cX12_copy 147 = .ok (.iload_n 1, 1) := by decide +kernel
theorem dX12_copy_148 : decode cX12_copy 148 = .ok (.imul, 1) := by decide +kernel
theorem dX12_copy_149 : decode cX12_copy 149 = .ok (.iload_n 2, 1) := by decide +kernel
theorem dX12_copy_150 : decode cX12_copy 150 = .ok (.iadd, 1) := by decide +kernel
theorem dX12_copy_151 : decode cX12_copy 151 = .ok (.iload 6, 2) := by decide +kernel
theorem dX12_copy_153 : decode cX12_copy 153 = .ok (.iadd, 1) := by decide +kernel
theorem dX12_copy_154 : decode cX12_copy 154 = .ok (.iaload, 1) := by decide +kernel
theorem dX12_copy_155 : decode cX12_copy 155 = .ok (.iastore, 1) := by decide +kernel
theorem dX12_copy_156 : decode cX12_copy 156 = .ok (.iinc 6 1, 3) := by decide +kernel
theorem dX12_copy_159 : decode cX12_copy 159 = .ok (.goto (-31), 3) := by decide +kernel
theorem dX12_copy_162 : decode cX12_copy 162 = .ok (.iconst 0, 1) := by decide +kernel
theorem dX12_copy_163 : decode cX12_copy 163 = .ok (.istore 6, 2) := by decide +kernel
theorem dX12_copy_165 : decode cX12_copy 165 = .ok (.iload 6, 2) := by decide +kernel
theorem dX12_copy_167 : decode cX12_copy 167 = .ok (.iload 5, 2) := by decide +kernel
theorem dX12_copy_169 : decode cX12_copy 169 = .ok (.if_icmp .ge 31, 3) := by decide +kernel
theorem dX12_copy_172 : decode cX12_copy 172 = .ok (.aload_n 0, 1) := by decide +kernel
theorem dX12_copy_173 : decode cX12_copy 173 = .ok (.getfield 51, 3) := by decide +kernel
theorem dX12_copy_176 : decode cX12_copy 176 = .ok (.bipush 24, 2) := by decide +kernel
theorem dX12_copy_178 : decode cX12_copy 178 = .ok (.iload_n 3, 1) := by decide +kernel
theorem dX12_copy_179 : decode cX12_copy 179 = .ok (.imul, 1) := by decide +kernel
theorem dX12_copy_180 : decode cX12_copy 180 = .ok (.iload 4, 2) := by decide +kernel
theorem dX12_copy_182 : decode cX12_copy 182 = .ok (.iadd, 1) := by decide +kernel
theorem dX12_copy_183 : decode cX12_copy 183 = .ok (.iload 6, 2) := by decide +kernel
theorem dX12_copy_185 : decode cX12_copy 185 = .ok (.iadd, 1) := by decide +kernel
theorem dX12_copy_186 : decode cX12_copy 186 = .ok (.aload_n 0, 1) := by decide +kernel
theorem dX12_copy_187 : decode cX12_copy 187 = .ok (.getfield 54, 3) := by decide +kernel
theorem dX12_copy_190 : decode cX12_copy 190 = .ok (.iload 6, 2) := by decide +kernel
theorem dX12_copy_192 : decode cX12_copy 192 = .ok (.iaload, 1) := by decide +kernel
theorem dX12_copy_193 : decode cX12_copy 193 = .ok (.iastore, 1) := by decide +kernel
theorem dX12_copy_194 : decode cX12_copy 194 = .ok (.iinc 6 1, 3) := by decide +kernel
theorem dX12_copy_197 : decode cX12_copy 197 = .ok (.goto (-32), 3) := by decide +kernel
theorem dX12_copy_200 : decode cX12_copy 200 = .ok (.iload 5, 2) := by decide +kernel
theorem dX12_copy_202 : decode cX12_copy 202 = .ok (.ireturn, 1) := by decide +kernel
theorem dX12_image_0 : decode cX12_image 0 = .ok (.aload_n 0, 1) := by decide +kernel
theorem dX12_image_1 : decode cX12_image 1 = .ok (.getfield 9, 3) := by decide +kernel
theorem dX12_image_4 : decode cX12_image 4 = .ok (.aload_n 0, 1) := by decide +kernel
theorem dX12_image_5 : decode cX12_image 5 = .ok (.getfield 13, 3) := by decide +kernel
theorem dX12_image_8 : decode cX12_image 8 = .ok (.invokestatic 200, 3) := by decide +kernel
theorem dX12_image_11 : decode cX12_image 11 = .ok (.aload_n 0, 1) := by decide +kernel
theorem dX12_image_12 : decode cX12_image 12 = .ok (.iconst 1, 1) := by decide +kernel
theorem dX12_image_13 : decode cX12_image 13 = .ok (.putfield 304, 3) := by decide +kernel
theorem dX12_image_16 : decode cX12_image 16 = .ok (.iconst 1, 1) := by decide +kernel
theorem dX12_image_17 : decode cX12_image 17 = .ok (.ireturn, 1) := by decide +kernel
theorem dX12_undo_0 : decode cX12_undo 0 = .ok (.aload_n 0, 1) := by decide +kernel
theorem dX12_undo_1 : decode cX12_undo 1 = .ok (.getfield 304, 3) := by decide +kernel
theorem dX12_undo_4 : decode cX12_undo 4 = .ok (.ifCond .ne 11, 3) := by decide +kernel
theorem dX12_undo_7 : decode cX12_undo 7 = .ok (.aload_n 0, 1) := by decide +kernel
theorem dX12_undo_8 : decode cX12_undo 8 = .ok (.ldc_w 290, 3) := by decide +kernel
theorem dX12_undo_11 : decode cX12_undo 11 = .ok (.invokevirtual 62, 3) := by decide +kernel
theorem dX12_undo_14 : decode cX12_undo 14 = .ok (.ireturn, 1) := by decide +kernel
theorem dX12_undo_15 : decode cX12_undo 15 = .ok (.aload_n 0, 1) := by decide +kernel
theorem dX12_undo_16 : decode cX12_undo 16 = .ok (.getfield 13, 3) := by decide +kernel
theorem dX12_undo_19 : decode cX12_undo 19 = .ok (.aload_n 0, 1) := by decide +kernel
theorem dX12_undo_20 : decode cX12_undo 20 = .ok (.getfield 9, 3) := by decide +kernel
theorem dX12_undo_23 : decode cX12_undo 23 = .ok (.invokestatic 200, 3) := by decide +kernel
theorem dX12_undo_26 : decode cX12_undo 26 = .ok (.aload_n 0, 1) := by decide +kernel
theorem dX12_undo_27 : decode cX12_undo 27 = .ok (.getfield 9, 3) := by decide +kernel
theorem dX12_undo_30 : decode cX12_undo 30 = .ok (.iconst 0, 1) := by decide +kernel
theorem dX12_undo_31 : decode cX12_undo 31 = .ok (.iaload, 1) := by decide +kernel
theorem dX12_undo_32 : decode cX12_undo 32 = .ok (.ireturn, 1) := by decide +kernel
theorem dX12_tear_0 : decode cX12_tear 0 = .ok (.aload_n 0, 1) := by decide +kernel
theorem dX12_tear_1 : decode cX12_tear 1 = .ok (.getfield 304, 3) := by decide +kernel
theorem dX12_tear_4 : decode cX12_tear 4 = .ok (.ifCond .eq 7, 3) := by decide +kernel
theorem dX12_tear_7 : decode cX12_tear 7 = .ok (.iconst 1, 1) := by decide +kernel
theorem dX12_tear_8 : decode cX12_tear 8 = .ok (.goto 4, 3) := by decide +kernel
theorem dX12_tear_11 : decode cX12_tear 11 = .ok (.iconst 0, 1) := by decide +kernel
theorem dX12_tear_12 : decode cX12_tear 12 = .ok (.istore_n 1, 1) := by decide +kernel
theorem dX12_tear_13 : decode cX12_tear 13 = .ok (.aload_n 0, 1) := by decide +kernel
theorem dX12_tear_14 : decode cX12_tear 14 = .ok (.iconst 0, 1) := by decide +kernel
theorem dX12_tear_15 : decode cX12_tear 15 = .ok (.putfield 304, 3) := by decide +kernel
theorem dX12_tear_18 : decode cX12_tear 18 = .ok (.iload_n 1, 1) := by decide +kernel
theorem dX12_tear_19 : decode cX12_tear 19 = .ok (.ireturn, 1) := by decide +kernel
theorem dX12_bits_0 : decode cX12_bits 0 = .ok (.iconst 0, 1) := by decide +kernel
theorem dX12_bits_1 : decode cX12_bits 1 = .ok (.istore_n 1, 1) := by decide +kernel
theorem dX12_bits_2 : decode cX12_bits 2 = .ok (.iconst 0, 1) := by decide +kernel
theorem dX12_bits_3 : decode cX12_bits 3 = .ok (.istore_n 2, 1) := by decide +kernel
theorem dX12_bits_4 : decode cX12_bits 4 = .ok (.iload_n 2, 1) := by decide +kernel
theorem dX12_bits_5 : decode cX12_bits 5 = .ok (.bipush 20, 2) := by decide +kernel
theorem dX12_bits_7 : decode cX12_bits 7 = .ok (.if_icmp .ge 17, 3) := by decide +kernel
theorem dX12_bits_10 : decode cX12_bits 10 = .ok (.iload_n 1, 1) := by decide +kernel
theorem dX12_bits_11 : decode cX12_bits 11 = .ok (.iload_n 0, 1) := by decide +kernel
theorem dX12_bits_12 : decode cX12_bits 12 = .ok (.iload_n 2, 1) := by decide +kernel
theorem dX12_bits_13 : decode cX12_bits 13 = .ok (.ishr, 1) := by decide +kernel
theorem dX12_bits_14 : decode cX12_bits 14 = .ok (.iconst 1, 1) := by decide +kernel
theorem dX12_bits_15 : decode cX12_bits 15 = .ok (.iand, 1) := by decide +kernel
theorem dX12_bits_16 : decode cX12_bits 16 = .ok (.iadd, 1) := by decide +kernel
theorem dX12_bits_17 : decode cX12_bits 17 = .ok (.istore_n 1, 1) := by decide +kernel
theorem dX12_bits_18 : decode cX12_bits 18 = .ok (.iinc 2 1, 3) := by decide +kernel
theorem dX12_bits_21 : decode cX12_bits 21 = .ok (.goto (-17), 3) := by decide +kernel
theorem dX12_bits_24 : decode cX12_bits 24 = .ok (.iload_n 1, 1) := by decide +kernel
theorem dX12_bits_25 : decode cX12_bits 25 = .ok (.ireturn, 1) := by decide +kernel
theorem dX12_count_0 : decode cX12_count 0 = .ok (.iconst 0, 1) := by decide +kernel
theorem dX12_count_1 : decode cX12_count 1 = .ok (.istore_n 2, 1) := by decide +kernel
theorem dX12_count_2 : decode cX12_count 2 = .ok (.iload_n 1, 1) := by decide +kernel
theorem dX12_count_3 : decode cX12_count 3 = .ok (.tableswitch 208 0 13 #[69, 76, 83, 90, 98, 106, 106, 106, 106, 117, 125, 132, 137, 166], 69) := by decide +kernel
theorem dX12_count_72 : decode cX12_count 72 = .ok (.aload_n 0, 1) := by decide +kernel
theorem dX12_count_73 : decode cX12_count 73 = .ok (.getfield 9, 3) := by decide +kernel
theorem dX12_count_76 : decode cX12_count 76 = .ok (.iconst 3, 1) := by decide +kernel
theorem dX12_count_77 : decode cX12_count 77 = .ok (.iaload, 1) := by decide +kernel
theorem dX12_count_78 : decode cX12_count 78 = .ok (.ireturn, 1) := by decide +kernel
theorem dX12_count_79 : decode cX12_count 79 = .ok (.aload_n 0, 1) := by decide +kernel
theorem dX12_count_80 : decode cX12_count 80 = .ok (.getfield 9, 3) := by decide +kernel
theorem dX12_count_83 : decode cX12_count 83 = .ok (.iconst 4, 1) := by decide +kernel
theorem dX12_count_84 : decode cX12_count 84 = .ok (.iaload, 1) := by decide +kernel
theorem dX12_count_85 : decode cX12_count 85 = .ok (.ireturn, 1) := by decide +kernel
theorem dX12_count_86 : decode cX12_count 86 = .ok (.aload_n 0, 1) := by decide +kernel
theorem dX12_count_87 : decode cX12_count 87 = .ok (.getfield 9, 3) := by decide +kernel
theorem dX12_count_90 : decode cX12_count 90 = .ok (.iconst 5, 1) := by decide +kernel
theorem dX12_count_91 : decode cX12_count 91 = .ok (.iaload, 1) := by decide +kernel
theorem dX12_count_92 : decode cX12_count 92 = .ok (.ireturn, 1) := by decide +kernel
theorem dX12_count_93 : decode cX12_count 93 = .ok (.aload_n 0, 1) := by decide +kernel
theorem dX12_count_94 : decode cX12_count 94 = .ok (.getfield 9, 3) := by decide +kernel
theorem dX12_count_97 : decode cX12_count 97 = .ok (.bipush 6, 2) := by decide +kernel
theorem dX12_count_99 : decode cX12_count 99 = .ok (.iaload, 1) := by decide +kernel
theorem dX12_count_100 : decode cX12_count 100 = .ok (.ireturn, 1) := by decide +kernel
theorem dX12_count_101 : decode cX12_count 101 = .ok (.aload_n 0, 1) := by decide +kernel
theorem dX12_count_102 : decode cX12_count 102 = .ok (.getfield 9, 3) := by decide +kernel
theorem dX12_count_105 : decode cX12_count 105 = .ok (.bipush 7, 2) := by decide +kernel
theorem dX12_count_107 : decode cX12_count 107 = .ok (.iaload, 1) := by decide +kernel
theorem dX12_count_108 : decode cX12_count 108 = .ok (.ireturn, 1) := by decide +kernel
theorem dX12_count_109 : decode cX12_count 109 = .ok (.aload_n 0, 1) := by decide +kernel
theorem dX12_count_110 : decode cX12_count 110 = .ok (.iload_n 1, 1) := by decide +kernel
theorem dX12_count_111 : decode cX12_count 111 = .ok (.iconst 5, 1) := by decide +kernel
theorem dX12_count_112 : decode cX12_count 112 = .ok (.isub, 1) := by decide +kernel
theorem dX12_count_113 : decode cX12_count 113 = .ok (.invokevirtual 211, 3) := by decide +kernel
theorem dX12_count_116 : decode cX12_count 116 = .ok (.invokestatic 307, 3) := by decide +kernel
theorem dX12_count_119 : decode cX12_count 119 = .ok (.ireturn, 1) := by decide +kernel
theorem dX12_count_120 : decode cX12_count 120 = .ok (.aload_n 0, 1) := by decide +kernel
theorem dX12_count_121 : decode cX12_count 121 = .ok (.getfield 9, 3) := by decide +kernel
theorem dX12_count_124 : decode cX12_count 124 = .ok (.bipush 8, 2) := by decide +kernel
theorem dX12_count_126 : decode cX12_count 126 = .ok (.iaload, 1) := by decide +kernel
theorem dX12_count_127 : decode cX12_count 127 = .ok (.ireturn, 1) := by decide +kernel
theorem dX12_count_128 : decode cX12_count 128 = .ok (.aload_n 0, 1) := by decide +kernel
theorem dX12_count_129 : decode cX12_count 129 = .ok (.getfield 9, 3) := by decide +kernel
theorem dX12_count_132 : decode cX12_count 132 = .ok (.iconst 0, 1) := by decide +kernel
theorem dX12_count_133 : decode cX12_count 133 = .ok (.iaload, 1) := by decide +kernel
theorem dX12_count_134 : decode cX12_count 134 = .ok (.ireturn, 1) := by decide +kernel
theorem dX12_count_135 : decode cX12_count 135 = .ok (.aload_n 0, 1) := by decide +kernel
theorem dX12_count_136 : decode cX12_count 136 = .ok (.getfield 223, 3) := by decide +kernel
theorem dX12_count_139 : decode cX12_count 139 = .ok (.ireturn, 1) := by decide +kernel
theorem dX12_count_140 : decode cX12_count 140 = .ok (.iconst 0, 1) := by decide +kernel
theorem dX12_count_141 : decode cX12_count 141 = .ok (.istore_n 3, 1) := by decide +kernel
theorem dX12_count_142 : decode cX12_count 142 = .ok (.iload_n 3, 1) := by decide +kernel
theorem dX12_count_143 : decode cX12_count 143 = .ok (.aload_n 0, 1) := by decide +kernel
theorem dX12_count_144 : decode cX12_count 144 = .ok (.getfield 9, 3) := by decide +kernel
theorem dX12_count_147 : decode cX12_count 147 = .ok (.iconst 4, 1) := by decide +kernel
theorem dX12_count_148 : decode cX12_count 148 = .ok (.iaload, 1) := by decide +kernel
theorem dX12_count_149 : decode cX12_count 149 = .ok (.if_icmp .ge 18, 3) := by decide +kernel
theorem dX12_count_152 : decode cX12_count 152 = .ok (.iload_n 2, 1) := by decide +kernel
theorem dX12_count_153 : decode cX12_count 153 = .ok (.aload_n 0, 1) := by decide +kernel
theorem dX12_count_154 : decode cX12_count 154 = .ok (.iload_n 3, 1) := by decide +kernel
theorem dX12_count_155 : decode cX12_count 155 = .ok (.iconst 3, 1) := by decide +kernel
theorem dX12_count_156 : decode cX12_count 156 = .ok (.invokevirtual 82, 3) := by decide +kernel
theorem dX12_count_159 : decode cX12_count 159 = .ok (.iadd, 1) := by decide +kernel
theorem dX12_count_160 : decode cX12_count 160 = .ok (.istore_n 2, 1) := by decide +kernel
theorem dX12_count_161 : decode cX12_count 161 = .ok (.iinc 3 1, 3) := by decide +kernel
theorem dX12_count_164 : decode cX12_count 164 = .ok (.goto (-22), 3) := by decide +kernel
theorem dX12_count_167 : decode cX12_count 167 = .ok (.iload_n 2, 1) := by decide +kernel
theorem dX12_count_168 : decode cX12_count 168 = .ok (.ireturn, 1) := by decide +kernel
theorem dX12_count_169 : decode cX12_count 169 = .ok (.iconst 0, 1) := by decide +kernel
theorem dX12_count_170 : decode cX12_count 170 = .ok (.istore_n 3, 1) := by decide +kernel
theorem dX12_count_171 : decode cX12_count 171 = .ok (.iload_n 3, 1) := by decide +kernel
theorem dX12_count_172 : decode cX12_count 172 = .ok (.bipush 6, 2) := by decide +kernel
theorem dX12_count_174 : decode cX12_count 174 = .ok (.if_icmp .ge 35, 3) := by decide +kernel
theorem dX12_count_177 : decode cX12_count 177 = .ok (.iload_n 2, 1) := by decide +kernel
theorem dX12_count_178 : decode cX12_count 178 = .ok (.aload_n 0, 1) := by decide +kernel
theorem dX12_count_179 : decode cX12_count 179 = .ok (.getfield 9, 3) := by decide +kernel
theorem dX12_count_182 : decode cX12_count 182 = .ok (.bipush 20, 2) := by decide +kernel
theorem dX12_count_184 : decode cX12_count 184 = .ok (.iload_n 3, 1) := by decide +kernel
theorem dX12_count_185 : decode cX12_count 185 = .ok (.iadd, 1) := by decide +kernel
theorem dX12_count_186 : decode cX12_count 186 = .ok (.iaload, 1) := by decide +kernel
theorem dX12_count_187 : decode cX12_count 187 = .ok (.aload_n 0, 1) := by decide +kernel
theorem dX12_count_188 : decode cX12_count 188 = .ok (.getfield 9, 3) := by decide +kernel
theorem dX12_count_191 : decode cX12_count 191 = .ok (.iconst 0, 1) := by decide +kernel
theorem dX12_count_192 : decode cX12_count 192 = .ok (.iaload, 1) := by decide +kernel
theorem dX12_count_193 : decode cX12_count 193 = .ok (.if_icmp .le 7, 3) := by decide +kernel
theorem dX12_count_196 : decode cX12_count 196 = .ok (.iconst 1, 1) := by decide +kernel
theorem dX12_count_197 : decode cX12_count 197 = .ok (.goto 4, 3) := by decide +kernel
theorem dX12_count_200 : decode cX12_count 200 = .ok (.iconst 0, 1) := by decide +kernel
theorem dX12_count_201 : decode cX12_count 201 = .ok (.iadd, 1) := by decide +kernel
theorem dX12_count_202 : decode cX12_count 202 = .ok (.istore_n 2, 1) := by decide +kernel
theorem dX12_count_203 : decode cX12_count 203 = .ok (.iinc 3 1, 3) := by decide +kernel
theorem dX12_count_206 : decode cX12_count 206 = .ok (.goto (-35), 3) := by decide +kernel
theorem dX12_count_209 : decode cX12_count 209 = .ok (.iload_n 2, 1) := by decide +kernel
theorem dX12_count_210 : decode cX12_count 210 = .ok (.ireturn, 1) := by decide +kernel
theorem dX12_count_211 : decode cX12_count 211 = .ok (.aload_n 0, 1) := by decide +kernel
theorem dX12_count_212 : decode cX12_count 212 = .ok (.ldc 57, 2) := by decide +kernel
theorem dX12_count_214 : decode cX12_count 214 = .ok (.invokevirtual 62, 3) := by decide +kernel
theorem dX12_count_217 : decode cX12_count 217 = .ok (.ireturn, 1) := by decide +kernel
theorem dX12_status_0 : decode cX12_status 0 = .ok (.iload_n 1, 1) := by decide +kernel
theorem dX12_status_1 : decode cX12_status 1 = .ok (.iconst (-1), 1) := by decide +kernel
theorem dX12_status_2 : decode cX12_status 2 = .ok (.bipush 6, 2) := by decide +kernel
theorem dX12_status_4 : decode cX12_status 4 = .ok (.invokestatic 58, 3) := by decide +kernel
theorem dX12_status_7 : decode cX12_status 7 = .ok (.ifCond .ne 10, 3) := by decide +kernel
theorem dX12_status_10 : decode cX12_status 10 = .ok (.aload_n 0, 1) := by decide +kernel
theorem dX12_status_11 : decode cX12_status 11 = .ok (.ldc 57, 2) := by decide +kernel
theorem dX12_status_13 : decode cX12_status 13 = .ok (.invokevirtual 62, 3) := by decide +kernel
theorem dX12_status_16 : decode cX12_status 16 = .ok (.ireturn, 1) := by decide +kernel
theorem dX12_status_17 : decode cX12_status 17 = .ok (.iconst 0, 1) := by decide +kernel
theorem dX12_status_18 : decode cX12_status 18 = .ok (.istore_n 2, 1) := by decide +kernel
theorem dX12_status_19 : decode cX12_status 19 = .ok (.iconst 0, 1) := by decide +kernel
theorem dX12_status_20 : decode cX12_status 20 = .ok (.istore_n 3, 1) := by decide +kernel
theorem dX12_status_21 : decode cX12_status 21 = .ok (.iload_n 3, 1) := by decide +kernel
theorem dX12_status_22 : decode cX12_status 22 = .ok (.bipush 7, 2) := by decide +kernel
theorem dX12_status_24 : decode cX12_status 24 = .ok (.if_icmp .ge 31, 3) := by decide +kernel
theorem dX12_status_27 : decode cX12_status 27 = .ok (.iload_n 2, 1) := by decide +kernel
theorem dX12_status_28 : decode cX12_status 28 = .ok (.iload_n 1, 1) := by decide +kernel
theorem dX12_status_29 : decode cX12_status 29 = .ok (.ifCond .lt 8, 3) := by decide +kernel
theorem dX12_status_32 : decode cX12_status 32 = .ok (.iload_n 1, 1) := by decide +kernel
theorem dX12_status_33 : decode cX12_status 33 = .ok (.iload_n 3, 1) := by decide +kernel
theorem dX12_status_34 : decode cX12_status 34 = .ok (.if_icmp .ne 12, 3) := by decide +kernel
theorem dX12_status_37 : decode cX12_status 37 = .ok (.aload_n 0, 1) := by decide +kernel
theorem dX12_status_38 : decode cX12_status 38 = .ok (.getfield 19, 3) := by decide +kernel
theorem dX12_status_41 : decode cX12_status 41 = .ok (.iload_n 3, 1) := by decide +kernel
theorem dX12_status_42 : decode cX12_status 42 = .ok (.iaload, 1) := by decide +kernel
theorem dX12_status_43 : decode cX12_status 43 = .ok (.goto 4, 3) := by decide +kernel
theorem dX12_status_46 : decode cX12_status 46 = .ok (.iconst 0, 1) := by decide +kernel
theorem dX12_status_47 : decode cX12_status 47 = .ok (.iadd, 1) := by decide +kernel
theorem dX12_status_48 : decode cX12_status 48 = .ok (.istore_n 2, 1) := by decide +kernel
theorem dX12_status_49 : decode cX12_status 49 = .ok (.iinc 3 1, 3) := by decide +kernel
theorem dX12_status_52 : decode cX12_status 52 = .ok (.goto (-31), 3) := by decide +kernel
theorem dX12_status_55 : decode cX12_status 55 = .ok (.iload_n 2, 1) := by decide +kernel
theorem dX12_status_56 : decode cX12_status 56 = .ok (.ireturn, 1) := by decide +kernel
