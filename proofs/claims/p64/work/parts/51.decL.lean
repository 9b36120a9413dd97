theorem dL_call__0 : decode cL_call_ 0 = .ok (.aload_n 0, 1) := by decide +kernel
theorem dL_call__1 : decode cL_call_ 1 = .ok (.iload_n 1, 1) := by decide +kernel
theorem dL_call__2 : decode cL_call_ 2 = .ok (.iload_n 2, 1) := by decide +kernel
theorem dL_call__3 : decode cL_call_ 3 = .ok (.iload_n 3, 1) := by decide +kernel
theorem dL_call__4 : decode cL_call_ 4 = .ok (.iconst 0, 1) := by decide +kernel
theorem dL_call__5 : decode cL_call_ 5 = .ok (.iconst 0, 1) := by decide +kernel
theorem dL_call__6 : decode cL_call_ 6 = .ok (.iconst 0, 1) := by decide +kernel
theorem dL_call__7 : decode cL_call_ 7 = .ok (.invokestatic 158, 3) := by decide +kernel
theorem dL_call__10 : decode cL_call_ 10 = .ok (.ireturn, 1) := by decide +kernel
theorem dL_call___0 : decode cL_call__ 0 = .ok (.aload_n 0, 1) := by decide +kernel
theorem dL_call___1 : decode cL_call__ 1 = .ok (.iload_n 1, 1) := by decide +kernel
theorem dL_call___2 : decode cL_call__ 2 = .ok (.iload_n 2, 1) := by decide +kernel
theorem dL_call___3 : decode cL_call__ 3 = .ok (.iconst 0, 1) := by decide +kernel
theorem dL_call___4 : decode cL_call__ 4 = .ok (.iconst 0, 1) := by decide +kernel
theorem dL_call___5 : decode cL_call__ 5 = .ok (.iconst 0, 1) := by decide +kernel
theorem dL_call___6 : decode cL_call__ 6 = .ok (.iconst 0, 1) := by decide +kernel
theorem dL_call___7 : decode cL_call__ 7 = .ok (.invokestatic 158, 3) := by decide +kernel
theorem dL_call___10 : decode cL_call__ 10 = .ok (.ireturn, 1) := by decide +kernel
theorem dL_feeds_0 : decode cL_feeds 0 = .ok (.iconst 0, 1) := by decide +kernel
theorem dL_feeds_1 : decode cL_feeds 1 = .ok (.istore_n 2, 1) := by decide +kernel
theorem dL_feeds_2 : decode cL_feeds 2 = .ok (.iload_n 2, 1) := by decide +kernel
theorem dL_feeds_3 : decode cL_feeds 3 = .ok (.aload_n 1, 1) := by decide +kernel
theorem dL_feeds_4 : decode cL_feeds 4 = .ok (.invokevirtual 162, 3) := by decide +kernel
theorem dL_feeds_7 : decode cL_feeds 7 = .ok (.if_icmp .ge 103, 3) := by decide +kernel
theorem dL_feeds_10 : decode cL_feeds 10 = .ok (.iconst 5, 1) := by decide +kernel
theorem dL_feeds_11 : decode cL_feeds 11 = .ok (.newarray .int, 2) := by decide +kernel
theorem dL_feeds_13 : decode cL_feeds 13 = .ok (.astore_n 3, 1) := by decide +kernel
theorem dL_feeds_14 : decode cL_feeds 14 = .ok (.iconst 0, 1) := by decide +kernel
theorem dL_feeds_15 : decode cL_feeds 15 = .ok (.istore 4, 2) := by decide +kernel
theorem dL_feeds_17 : decode cL_feeds 17 = .ok (.iload 4, 2) := by decide +kernel
theorem dL_feeds_19 : decode cL_feeds 19 = .ok (.bipush 20, 2) := by decide +kernel
theorem dL_feeds_21 : decode cL_feeds 21 = .ok (.if_icmp .ge 53, 3) := by decide +kernel
theorem dL_feeds_24 : decode cL_feeds 24 = .ok (.aload_n 3, 1) := by decide +kernel
theorem dL_feeds_25 : decode cL_feeds 25 = .ok (.iload 4, 2) := by decide +kernel
theorem dL_feeds_27 : decode cL_feeds 27 = .ok (.iconst 4, 1) := by decide +kernel
theorem dL_feeds_28 : decode cL_feeds 28 = .ok (.idiv, 1) := by decide +kernel
theorem dL_feeds_29 : decode cL_feeds 29 = .ok (.dup2, 1) := by decide +kernel
theorem dL_feeds_30 : decode cL_feeds 30 = .ok (.iaload, 1) := by decide +kernel
theorem dL_feeds_31 : decode cL_feeds 31 = .ok (.iload_n 2, 1) := by decide +kernel
theorem dL_feeds_32 : decode cL_feeds 32 = .ok (.iload 4, 2) := by decide +kernel
theorem dL_feeds_34 : decode cL_feeds 34 = .ok (.iadd, 1) := by decide +kernel
theorem dL_feeds_35 : decode cL_feeds 35 = .ok (.aload_n 1, 1) := by decide +kernel
theorem dL_feeds_36 : decode cL_feeds 36 = .ok (.invokevirtual 162, 3) := by decide +kernel
theorem dL_feeds_39 : decode cL_feeds 39 = .ok (.if_icmp .ge 14, 3) := by decide +kernel
theorem dL_feeds_42 : decode cL_feeds 42 = .ok (.aload_n 1, 1) := by decide +kernel
theorem dL_feeds_43 : decode cL_feeds 43 = .ok (.iload_n 2, 1) := by decide +kernel
theorem dL_feeds_44 : decode cL_feeds 44 = .ok (.iload 4, 2) := by decide +kernel
theorem dL_feeds_46 : decode cL_feeds 46 = .ok (.iadd, 1) := by decide +kernel
theorem dL_feeds_47 : decode cL_feeds 47 = .ok (.invokevirtual 167, 3) := by decide +kernel
theorem dL_feeds_50 : decode cL_feeds 50 = .ok (.goto 5, 3) := by decide +kernel
theorem dL_feeds_53 : decode cL_feeds 53 = .ok (.bipush 32, 2) := by decide +kernel
theorem dL_feeds_55 : decode cL_feeds 55 = .ok (.bipush 24, 2) := by decide +kernel
theorem dL_feeds_57 : decode cL_feeds 57 = .ok (.bipush 8, 2) := by decide +kernel
theorem dL_feeds_59 : decode cL_feeds 59 = .ok (.iload 4, 2) := by decide +kernel
theorem dL_feeds_61 : decode cL_feeds 61 = .ok (.iconst 4, 1) := by decide +kernel
theorem dL_feeds_62 : decode cL_feeds 62 = .ok (.irem, 1) := by decide +kernel
theorem dL_feeds_63 : decode cL_feeds 63 = .ok (.imul, 1) := by decide +kernel
theorem dL_feeds_64 : decode cL_feeds 64 = .ok (.isub, 1) := by decide +kernel
theorem dL_feeds_65 : decode cL_feeds 65 = .ok (.ishl, 1) := by decide +kernel
theorem dL_feeds_66 : decode cL_feeds 66 = .ok (.ior, 1) := by decide +kernel
theorem dL_feeds_67 : decode cL_feeds 67 = .ok (.iastore, 1) := by decide +kernel
theorem dL_feeds_68 : decode cL_feeds 68 = .ok (.iinc 4 1, 3) := by decide +kernel
theorem dL_feeds_71 : decode cL_feeds 71 = .ok (.goto (-54), 3) := by decide +kernel
theorem dL_feeds_74 : decode cL_feeds 74 = .ok (.aload_n 0, 1) := by decide +kernel
theorem dL_feeds_75 : decode cL_feeds 75 = .ok (.bipush 12, 2) := by decide +kernel
theorem dL_feeds_77 : decode cL_feeds 77 = .ok (.aload_n 3, 1) := by decide +kernel
theorem dL_feeds_78 : decode cL_feeds 78 = .ok (.iconst 0, 1) := by decide +kernel
theorem dL_feeds_79 : decode cL_feeds 79 = .ok (.iaload, 1) := by decide +kernel
theorem dL_feeds_80 : decode cL_feeds 80 = .ok (.aload_n 3, 1) := by decide +kernel
theorem dL_feeds_81 : decode cL_feeds 81 = .ok (.iconst 1, 1) := by decide +kernel
theorem dL_feeds_82 : decode cL_feeds 82 = .ok (.iaload, 1) := by decide +kernel
theorem dL_feeds_83 : decode cL_feeds 83 = .ok (.aload_n 3, 1) := by decide +kernel
theorem dL_feeds_84 : decode cL_feeds 84 = .ok (.iconst 2, 1) := by decide +kernel
theorem dL_feeds_85 : decode cL_feeds 85 = .ok (.iaload, 1) := by decide +kernel
theorem dL_feeds_86 : decode cL_feeds 86 = .ok (.aload_n 3, 1) := by decide +kernel
theorem dL_feeds_87 : decode cL_feeds 87 = .ok (.iconst 3, 1) := by decide +kernel
theorem dL_feeds_88 : decode cL_feeds 88 = .ok (.iaload, 1) := by decide +kernel
theorem dL_feeds_89 : decode cL_feeds 89 = .ok (.aload_n 3, 1) := by decide +kernel
theorem dL_feeds_90 : decode cL_feeds 90 = .ok (.iconst 4, 1) := by decide +kernel
theorem dL_feeds_91 : decode cL_feeds 91 = .ok (.iaload, 1) := by decide +kernel
theorem dL_feeds_92 : decode cL_feeds 92 = .ok (.invokestatic 158, 3) := by decide +kernel
theorem dL_feeds_95 : decode cL_feeds 95 = .ok (.iload_n 2, 1) := by decide +kernel
theorem dL_feeds_96 : decode cL_feeds 96 = .ok (.bipush 20, 2) := by decide +kernel
theorem dL_feeds_98 : decode cL_feeds 98 = .ok (.iadd, 1) := by decide +kernel
theorem dL_feeds_99 : decode cL_feeds 99 = .ok (.if_icmp .eq 5, 3) := by decide +kernel
theorem dL_feeds_102 : decode cL_feeds 102 = .ok (.iconst 0, 1) := by decide +kernel
theorem dL_feeds_103 : decode cL_feeds 103 = .ok (.ireturn, 1) := by decide +kernel
theorem dL_feeds_104 : decode cL_feeds 104 = .ok (.iinc 2 20, 3) := by decide +kernel
theorem dL_feeds_107 : decode cL_feeds 107 = .ok (.goto (-105), 3) := by decide +kernel
theorem dL_feeds_110 : decode cL_feeds 110 = .ok (.aload_n 0, 1) := by decide +kernel
theorem dL_feeds_111 : decode cL_feeds 111 = .ok (.bipush 13, 2) := by decide +kernel
theorem dL_feeds_113 : decode cL_feeds 113 = .ok (.aload_n 1, 1) := by decide +kernel
theorem dL_feeds_114 : decode cL_feeds 114 = .ok (.invokevirtual 162, 3) := by decide +kernel
theorem dL_feeds_117 : decode cL_feeds 117 = .ok (.invokestatic 171, 3) := by decide +kernel
theorem dL_feeds_120 : decode cL_feeds 120 = .ok (.aload_n 1, 1) := by decide +kernel
theorem dL_feeds_121 : decode cL_feeds 121 = .ok (.invokevirtual 162, 3) := by decide +kernel
theorem dL_feeds_124 : decode cL_feeds 124 = .ok (.if_icmp .ne 7, 3) := by decide +kernel
theorem dL_feeds_127 : decode cL_feeds 127 = .ok (.iconst 1, 1) := by decide +kernel
theorem dL_feeds_128 : decode cL_feeds 128 = .ok (.goto 4, 3) := by decide +kernel
theorem dL_feeds_131 : decode cL_feeds 131 = .ok (.iconst 0, 1) := by decide +kernel
theorem dL_feeds_132 : decode cL_feeds 132 = .ok (.ireturn, 1) := by decide +kernel
theorem dL_night_0 : decode cL_night 0 = .ok (.new 174, 3) := by decide +kernel
theorem dL_night_3 : decode cL_night 3 = .ok (.dup, 1) := by decide +kernel
theorem dL_night_4 : decode cL_night 4 = .ok (.ldc 176, 2) := by decide +kernel
theorem dL_night_6 : decode cL_night 6 = .ok (.invokespecial 178, 3) := by decide +kernel
theorem dL_night_9 : decode cL_night 9 = .ok (.iload_n 0, 1) := by decide +kernel
theorem dL_night_10 : decode cL_night 10 = .ok (.sipush 255, 3) := by decide +kernel
theorem dL_night_13 : decode cL_night 13 = .ok (.iand, 1) := by decide +kernel
theorem dL_night_14 : decode cL_night 14 = .ok (.iconst 4, 1) := by decide +kernel
theorem dL_night_15 : decode cL_night 15 = .ok (.irem, 1) := by decide +kernel
theorem dL_night_16 : decode cL_night 16 = .ok (.invokevirtual 181, 3) := by decide +kernel
theorem dL_night_19 : decode cL_night 19 = .ok (.bipush 32, 2) := by decide +kernel
theorem dL_night_21 : decode cL_night 21 = .ok (.invokevirtual 184, 3) := by decide +kernel
theorem dL_night_24 : decode cL_night 24 = .ok (.iload_n 0, 1) := by decide +kernel
theorem dL_night_25 : decode cL_night 25 = .ok (.iconst 2, 1) := by decide +kernel
theorem dL_night_26 : decode cL_night 26 = .ok (.ishr, 1) := by decide +kernel
theorem dL_night_27 : decode cL_night 27 = .ok (.bipush 127, 2) := by decide +kernel
theorem dL_night_29 : decode cL_night 29 = .ok (.iand, 1) := by decide +kernel
theorem dL_night_30 : decode cL_night 30 = .ok (.invokevirtual 181, 3) := by decide +kernel
theorem dL_night_33 : decode cL_night 33 = .ok (.bipush 59, 2) := by decide +kernel
theorem dL_night_35 : decode cL_night 35 = .ok (.invokevirtual 184, 3) := by decide +kernel
theorem dL_night_38 : decode cL_night 38 = .ok (.astore_n 2, 1) := by decide +kernel
theorem dL_night_39 : decode cL_night 39 = .ok (.bipush 6, 2) := by decide +kernel
theorem dL_night_41 : decode cL_night 41 = .ok (.anewarray 163, 3) := by decide +kernel
theorem dL_night_44 : decode cL_night 44 = .ok (.dup, 1) := by decide +kernel
theorem dL_night_45 : decode cL_night 45 = .ok (.iconst 0, 1) := by decide +kernel
theorem dL_night_46 : decode cL_night 46 = .ok (.ldc 187, 2) := by decide +kernel
theorem dL_night_48 : decode cL_night 48 = .ok (.aastore, 1) := by decide +kernel
theorem dL_night_49 : decode cL_night 49 = .ok (.dup, 1) := by decide +kernel
theorem dL_night_50 : decode cL_night 50 = .ok (.iconst 1, 1) := by decide +kernel
theorem dL_night_51 : decode cL_night 51 = .ok (.ldc 189, 2) := by decide +kernel
theorem dL_night_53 : decode cL_night 53 = .ok (.aastore, 1) := by decide +kernel
theorem dL_night_54 : decode cL_night 54 = .ok (.dup, 1) := by decide +kernel
theorem dL_night_55 : decode cL_night 55 = .ok (.iconst 2, 1) := by decide +kernel
theorem dL_night_56 : decode cL_night 56 = .ok (.ldc 191, 2) := by decide +kernel
theorem dL_night_58 : decode cL_night 58 = .ok (.aastore, 1) := by decide +kernel
theorem dL_night_59 : decode cL_night 59 = .ok (.dup, 1) := by decide +kernel
theorem dL_night_60 : decode cL_night 60 = .ok (.iconst 3, 1) := by decide +kernel
theorem dL_night_61 : decode cL_night 61 = .ok (.ldc 193, 2) := by decide +kernel
theorem dL_night_63 : decode cL_night 63 = .ok (.aastore, 1) := by decide +kernel
theorem dL_night_64 : decode cL_night 64 = .ok (.dup, 1) := by decide +kernel
theorem dL_night_65 : decode cL_night 65 = .ok (.iconst 4, 1) := by decide +kernel
theorem dL_night_66 : decode cL_night 66 = .ok (.ldc 195, 2) := by decide +kernel
theorem dL_night_68 : decode cL_night 68 = .ok (.aastore, 1) := by decide +kernel
theorem dL_night_69 : decode cL_night 69 = .ok (.dup, 1) := by decide +kernel
theorem dL_night_70 : decode cL_night 70 = .ok (.iconst 5, 1) := by decide +kernel
theorem dL_night_71 : decode cL_night 71 = .ok (.ldc 197, 2) := by decide +kernel
theorem dL_night_73 : decode cL_night 73 = .ok (.aastore, 1) := by decide +kernel
theorem dL_night_74 : decode cL_night 74 = .ok (.astore_n 3, 1) := by decide +kernel
theorem dL_night_75 : decode cL_night 75 = .ok (.iconst 1, 1) := by decide +kernel
theorem dL_night_76 : decode cL_night 76 = .ok (.iload_n 0, 1) := by decide +kernel
theorem dL_night_77 : decode cL_night 77 = .ok (.iconst 4, 1) := by decide +kernel
theorem dL_night_78 : decode cL_night 78 = .ok (.ishr, 1) := by decide +kernel
theorem dL_night_79 : decode cL_night 79 = .ok (.sipush 255, 3) := by decide +kernel
theorem dL_night_82 : decode cL_night 82 = .ok (.iand, 1) := by decide +kernel
theorem dL_night_83 : decode cL_night 83 = .ok (.bipush 6, 2) := by decide +kernel
theorem dL_night_85 : decode cL_night 85 = .ok (.irem, 1) := by decide +kernel
theorem dL_night_86 : decode cL_night 86 = .ok (.iadd, 1) := by decide +kernel
theorem dL_night_87 : decode cL_night 87 = .ok (.istore 4, 2) := by decide +kernel
theorem dL_night_89 : decode cL_night 89 = .ok (.iload_n 1, 1) := by decide +kernel
theorem dL_night_90 : decode cL_night 90 = .ok (.istore 5, 2) := by decide +kernel
theorem dL_night_92 : decode cL_night 92 = .ok (.iconst 0, 1) := by decide +kernel
theorem dL_night_93 : decode cL_night 93 = .ok (.istore 6, 2) := by decide +kernel
theorem dL_night_95 : decode cL_night 95 = .ok (.iload 6, 2) := by decide +kernel
theorem dL_night_97 : decode cL_night 97 = .ok (.iload 4, 2) := by decide +kernel
theorem dL_night_99 : decode cL_night 99 = .ok (.if_icmp .ge 105, 3) := by decide +kernel
theorem dL_night_102 : decode cL_night 102 = .ok (.iload 5, 2) := by decide +kernel
theorem dL_night_104 : decode cL_night 104 = .ok (.ldc 199, 2) := by decide +kernel
theorem dL_night_106 : decode cL_night 106 = .ok (.imul, 1) := by decide +kernel
theorem dL_night_107 : decode cL_night 107 = .ok (.sipush 12345, 3) := by decide +kernel
theorem dL_night_110 : decode cL_night 110 = .ok (.iadd, 1) := by decide +kernel
theorem dL_night_111 : decode cL_night 111 = .ok (.istore 5, 2) := by decide +kernel
theorem dL_night_113 : decode cL_night 113 = .ok (.aload_n 2, 1) := by decide +kernel
theorem dL_night_114 : decode cL_night 114 = .ok (.ldc 200, 2) := by decide +kernel
theorem dL_night_116 : decode cL_night 116 = .ok (.invokevirtual 202, 3) := by decide +kernel
theorem dL_night_119 : decode cL_night 119 = .ok (.aload_n 3, 1) := by decide +kernel
theorem dL_night_120 : decode cL_night 120 = .ok (.iload 6, 2) := by decide +kernel
theorem dL_night_122 : decode cL_night 122 = .ok (.aaload, 1) := by decide +kernel
theorem dL_night_123 : decode cL_night 123 = .ok (.invokevirtual 202, 3) := by decide +kernel
theorem dL_night_126 : decode cL_night 126 = .ok (.bipush 32, 2) := by decide +kernel
theorem dL_night_128 : decode cL_night 128 = .ok (.invokevirtual 184, 3) := by decide +kernel
theorem dL_night_131 : decode cL_night 131 = .ok (.iload 5, 2) := by decide +kernel
theorem dL_night_133 : decode cL_night 133 = .ok (.bipush 8, 2) := by decide +kernel
theorem dL_night_135 : decode cL_night 135 = .ok (.ishr, 1) := by decide +kernel
theorem dL_night_136 : decode cL_night 136 = .ok (.sipush 255, 3) := by decide +kernel
theorem dL_night_139 : decode cL_night 139 = .ok (.iand, 1) := by decide +kernel
theorem dL_night_140 : decode cL_night 140 = .ok (.bipush 10, 2) := by decide +kernel
theorem dL_night_142 : decode cL_night 142 = .ok (.irem, 1) := by decide +kernel
theorem dL_night_143 : decode cL_night 143 = .ok (.invokevirtual 181, 3) := by decide +kernel
theorem dL_night_146 : decode cL_night 146 = .ok (.iload 5, 2) := by decide +kernel
theorem dL_night_148 : decode cL_night 148 = .ok (.bipush 12, 2) := by decide +kernel
theorem dL_night_150 : decode cL_night 150 = .ok (.ishr, 1) := by decide +kernel
theorem dL_night_151 : decode cL_night 151 = .ok (.iconst 1, 1) := by decide +kernel
theorem dL_night_152 : decode cL_night 152 = .ok (.iand, 1) := by decide +kernel
theorem dL_night_153 : decode cL_night 153 = .ok (.ifCond .ne 8, 3) := by decide +kernel
theorem dL_night_156 : decode cL_night 156 = .ok (.ldc 205, 2) := by decide +kernel
theorem dL_night_158 : decode cL_night 158 = .ok (.goto 36, 3) := by decide +kernel
theorem dL_night_161 : decode cL_night 161 = .ok (.new 174, 3) := by decide +kernel
theorem dL_night_164 : decode cL_night 164 = .ok (.dup, 1) := by decide +kernel
theorem dL_night_165 : decode cL_night 165 = .ok (.invokespecial 207, 3) := by decide +kernel
theorem dL_night_168 : decode cL_night 168 = .ok (.ldc 208, 2) := by decide +kernel
theorem dL_night_170 : decode cL_night 170 = .ok (.invokevirtual 202, 3) := by decide +kernel
theorem dL_night_173 : decode cL_night 173 = .ok (.iconst 1, 1) := by decide +kernel
theorem dL_night_174 : decode cL_night 174 = .ok (.iload 5, 2) := by decide +kernel
theorem dL_night_176 : decode cL_night 176 = .ok (.bipush 13, 2) := by decide +kernel
theorem dL_night_178 : decode cL_night 178 = .ok (.ishr, 1) := by decide +kernel
theorem dL_night_179 : decode cL_night 179 = .ok (.bipush 7, 2) := by decide +kernel
theorem dL_night_181 : decode cL_night 181 = .ok (.iand, 1) := by decide +kernel
theorem dL_night_182 : decode cL_night 182 = .ok (.iadd, 1) := by decide +kernel
theorem dL_night_183 : decode cL_night 183 = .ok (.invokevirtual 181, 3) := by decide +kernel
theorem dL_night_186 : decode cL_night 186 = .ok (.ldc 205, 2) := by decide +kernel
theorem dL_night_188 : decode cL_night 188 = .ok (.invokevirtual 202, 3) := by decide +kernel
theorem dL_night_191 : decode cL_night 191 = .ok (.invokevirtual 210, 3) := by decide +kernel
theorem dL_night_194 : decode cL_night 194 = .ok (.invokevirtual 202, 3) := by decide +kernel
theorem dL_night_197 : decode cL_night 197 = .ok (.pop, 1) := by decide +kernel
theorem dL_night_198 : decode cL_night 198 = .ok (.iinc 6 1, 3) := by decide +kernel
theorem dL_night_201 : decode cL_night 201 = .ok (.goto (-106), 3) := by decide +kernel
theorem dL_night_204 : decode cL_night 204 = .ok (.iconst 0, 1) := by decide +kernel
theorem dL_night_205 : decode cL_night 205 = .ok (.istore 6, 2) := by decide +kernel
theorem dL_night_207 : decode cL_night 207 = .ok (.iload 6, 2) := by decide +kernel
theorem dL_night_209 : decode cL_night 209 = .ok (.iload_n 0, 1) := by decide +kernel
theorem dL_night_210 : decode cL_night 210 = .ok (.bipush 8, 2) := by decide +kernel
theorem dL_night_212 : decode cL_night 212 = .ok (.ishr, 1) := by decide +kernel
theorem dL_night_213 : decode cL_night 213 = .ok (.bipush 7, 2) := by decide +kernel
theorem dL_night_215 : decode cL_night 215 = .ok (.iand, 1) := by decide +kernel
theorem dL_night_216 : decode cL_night 216 = .ok (.if_icmp .ge 69, 3) := by decide +kernel
theorem dL_night_219 : decode cL_night 219 = .ok (.iload 5, 2) := by decide +kernel
theorem dL_night_221 : decode cL_night 221 = .ok (.ldc 199, 2) := by decide +kernel
theorem dL_night_223 : decode cL_night 223 = .ok (.imul, 1) := by decide +kernel
theorem dL_night_224 : decode cL_night 224 = .ok (.sipush 12345, 3) := by decide +kernel
theorem dL_night_227 : decode cL_night 227 = .ok (.iadd, 1) := by decide +kernel
theorem dL_night_228 : decode cL_night 228 = .ok (.istore 5, 2) := by decide +kernel
theorem dL_night_230 : decode cL_night 230 = .ok (.aload_n 2, 1) := by decide +kernel
theorem dL_night_231 : decode cL_night 231 = .ok (.ldc 214, 2) := by decide +kernel
theorem dL_night_233 : decode cL_night 233 = .ok (.invokevirtual 202, 3) := by decide +kernel
theorem dL_night_236 : decode cL_night 236 = .ok (.aload_n 3, 1) := by decide +kernel
theorem dL_night_237 : decode cL_night 237 = .ok (.iload 5, 2) := by decide +kernel
theorem dL_night_239 : decode cL_night 239 = .ok (.bipush 8, 2) := by decide +kernel
theorem dL_night_241 : decode cL_night 241 = .ok (.ishr, 1) := by decide +kernel
theorem dL_night_242 : decode cL_night 242 = .ok (.sipush 255, 3) := by decide +kernel
theorem dL_night_245 : decode cL_night 245 = .ok (.iand, 1) := by decide +kernel
theorem dL_night_246 : decode cL_night 246 = .ok (.iload 4, 2) := by decide +kernel
theorem dL_night_248 : decode cL_night 248 = .ok (.irem, 1) := by decide +kernel
theorem dL_night_249 : decode cL_night 249 = .ok (.aaload, 1) := by decide +kernel
theorem dL_night_250 : decode cL_night 250 = .ok (.invokevirtual 202, 3) := by decide +kernel
theorem dL_night_253 : decode cL_night 253 = .ok (.bipush 32, 2) := by decide +kernel
theorem dL_night_255 : decode cL_night 255 = .ok (.invokevirtual 184, 3) := by decide +kernel
theorem dL_night_258 : decode cL_night 258 = .ok (.iload 5, 2) := by decide +kernel
theorem dL_night_260 : decode cL_night 260 = .ok (.bipush 12, 2) := by decide +kernel
theorem dL_night_262 : decode cL_night 262 = .ok (.ishr, 1) := by decide +kernel
theorem dL_night_263 : decode cL_night 263 = .ok (.sipush 255, 3) := by decide +kernel
theorem dL_night_266 : decode cL_night 266 = .ok (.iand, 1) := by decide +kernel
theorem dL_night_267 : decode cL_night 267 = .ok (.bipush 100, 2) := by decide +kernel
theorem dL_night_269 : decode cL_night 269 = .ok (.irem, 1) := by decide +kernel
theorem dL_night_270 : decode cL_night 270 = .ok (.invokevirtual 181, 3) := by decide +kernel
theorem dL_night_273 : decode cL_night 273 = .ok (.bipush 59, 2) := by decide +kernel
theorem dL_night_275 : decode cL_night 275 = .ok (.invokevirtual 184, 3) := by decide +kernel
theorem dL_night_278 : decode cL_night 278 = .ok (.pop, 1) := by decide +kernel
theorem dL_night_279 : decode cL_night 279 = .ok (.iinc 6 1, 3) := by decide +kernel
theorem dL_night_282 : decode cL_night 282 = .ok (.goto (-75), 3) := by decide +kernel
theorem dL_night_285 : decode cL_night 285 = .ok (.aload_n 2, 1) := by decide +kernel
theorem dL_night_286 : decode cL_night 286 = .ok (.invokevirtual 210, 3) := by decide +kernel
theorem dL_night_289 : decode cL_night 289 = .ok (.areturn, 1) := by decide +kernel
theorem dL_state_0 : decode cL_state 0 = .ok (.ldc2_w 216, 3) := by decide +kernel
theorem dL_state_3 : decode cL_state 3 = .ok (.aload_n 0, 1) := by decide +kernel
theorem dL_state_4 : decode cL_state 4 = .ok (.invokevirtual 218, 3) := by decide +kernel
theorem dL_state_7 : decode cL_state 7 = .ok (.i2l, 1) := by decide +kernel
theorem dL_state_8 : decode cL_state 8 = .ok (.lmul, 1) := by decide +kernel
theorem dL_state_9 : decode cL_state 9 = .ok (.aload_n 0, 1) := by decide +kernel
theorem dL_state_10 : decode cL_state 10 = .ok (.invokevirtual 221, 3) := by decide +kernel
theorem dL_state_13 : decode cL_state 13 = .ok (.i2l, 1) := by decide +kernel
theorem dL_state_14 : decode cL_state 14 = .ok (.ladd, 1) := by decide +kernel
theorem dL_state_15 : decode cL_state 15 = .ok (.lstore_n 1, 1) := by decide +kernel
theorem dL_state_16 : decode cL_state 16 = .ok (.lload_n 1, 1) := by decide +kernel
theorem dL_state_17 : decode cL_state 17 = .ok (.ldc2_w 224, 3) := by decide +kernel
theorem dL_state_20 : decode cL_state 20 = .ok (.lmul, 1) := by decide +kernel
theorem dL_state_21 : decode cL_state 21 = .ok (.aload_n 0, 1) := by decide +kernel
theorem dL_state_22 : decode cL_state 22 = .ok (.invokevirtual 226, 3) := by decide +kernel
theorem dL_state_25 : decode cL_state 25 = .ok (.i2l, 1) := by decide +kernel
theorem dL_state_26 : decode cL_state 26 = .ok (.ladd, 1) := by decide +kernel
theorem dL_state_27 : decode cL_state 27 = .ok (.lstore_n 1, 1) := by decide +kernel
theorem dL_state_28 : decode cL_state 28 = .ok (.lload_n 1, 1) := by decide +kernel
theorem dL_state_29 : decode cL_state 29 = .ok (.ldc2_w 224, 3) := by decide +kernel
theorem dL_state_32 : decode cL_state 32 = .ok (.lmul, 1) := by decide +kernel
theorem dL_state_33 : decode cL_state 33 = .ok (.aload_n 0, 1) := by decide +kernel
theorem dL_state_34 : decode cL_state 34 = .ok (.invokevirtual 229, 3) := by decide +kernel
theorem dL_state_37 : decode cL_state 37 = .ok (.i2l, 1) := by decide +kernel
theorem dL_state_38 : decode cL_state 38 = .ok (.ladd, 1) := by decide +kernel
theorem dL_state_39 : decode cL_state 39 = .ok (.lstore_n 1, 1) := by decide +kernel
theorem dL_state_40 : decode cL_state 40 = .ok (.lload_n 1, 1) := by decide +kernel
theorem dL_state_41 : decode cL_state 41 = .ok (.ldc2_w 232, 3) := by decide +kernel
theorem dL_state_44 : decode cL_state 44 = .ok (.lmul, 1) := by decide +kernel
theorem dL_state_45 : decode cL_state 45 = .ok (.aload_n 0, 1) := by decide +kernel
theorem dL_state_46 : decode cL_state 46 = .ok (.invokevirtual 234, 3) := by decide +kernel
theorem dL_state_49 : decode cL_state 49 = .ok (.i2l, 1) := by decide +kernel
theorem dL_state_50 : decode cL_state 50 = .ok (.ladd, 1) := by decide +kernel
theorem dL_state_51 : decode cL_state 51 = .ok (.lstore_n 1, 1) := by decide +kernel
theorem dL_state_52 : decode cL_state 52 = .ok (.lload_n 1, 1) := by decide +kernel
theorem dL_state_53 : decode cL_state 53 = .ok (.ldc2_w 224, 3) := by decide +kernel
theorem dL_state_56 : decode cL_state 56 = .ok (.lmul, 1) := by decide +kernel
theorem dL_state_57 : decode cL_state 57 = .ok (.aload_n 0, 1) := by decide +kernel
theorem dL_state_58 : decode cL_state 58 = .ok (.invokevirtual 237, 3) := by decide +kernel
theorem dL_state_61 : decode cL_state 61 = .ok (.i2l, 1) := by decide +kernel
theorem dL_state_62 : decode cL_state 62 = .ok (.ladd, 1) := by decide +kernel
theorem dL_state_63 : decode cL_state 63 = .ok (.lstore_n 1, 1) := by decide +kernel
theorem dL_state_64 : decode cL_state 64 = .ok (.lload_n 1, 1) := by decide +kernel
theorem dL_state_65 : decode cL_state 65 = .ok (.ldc2_w 232, 3) := by decide +kernel
theorem dL_state_68 : decode cL_state 68 = .ok (.lmul, 1) := by decide +kernel
theorem dL_state_69 : decode cL_state 69 = .ok (.aload_n 0, 1) := by decide +kernel
theorem dL_state_70 : decode cL_state 70 = .ok (.invokevirtual 240, 3) := by decide +kernel
theorem dL_state_73 : decode cL_state 73 = .ok (.i2l, 1) := by decide +kernel
theorem dL_state_74 : decode cL_state 74 = .ok (.ladd, 1) := by decide +kernel
theorem dL_state_75 : decode cL_state 75 = .ok (.lstore_n 1, 1) := by decide +kernel
theorem dL_state_76 : decode cL_state 76 = .ok (.iconst 0, 1) := by decide +kernel
theorem dL_state_77 : decode cL_state 77 = .ok (.istore_n 3, 1) := by decide +kernel
theorem dL_state_78 : decode cL_state 78 = .ok (.iload_n 3, 1) := by decide +kernel
theorem dL_state_79 : decode cL_state 79 = .ok (.aload_n 0, 1) := by decide +kernel
theorem dL_state_80 : decode cL_state 80 = .ok (.invokevirtual 243, 3) := by decide +kernel
theorem dL_state_83 : decode cL_state 83 = .ok (.if_icmp .ge 41, 3) := by decide +kernel
theorem dL_state_86 : decode cL_state 86 = .ok (.bipush 18, 2) := by decide +kernel
theorem dL_state_88 : decode cL_state 88 = .ok (.istore 4, 2) := by decide +kernel
theorem dL_state_90 : decode cL_state 90 = .ok (.iload 4, 2) := by decide +kernel
theorem dL_state_92 : decode cL_state 92 = .ok (.bipush 24, 2) := by decide +kernel
theorem dL_state_94 : decode cL_state 94 = .ok (.if_icmp .ge 24, 3) := by decide +kernel
theorem dL_state_97 : decode cL_state 97 = .ok (.lload_n 1, 1) := by decide +kernel
theorem dL_state_98 : decode cL_state 98 = .ok (.ldc2_w 224, 3) := by decide +kernel
theorem dL_state_101 : decode cL_state 101 = .ok (.lmul, 1) := by decide +kernel
theorem dL_state_102 : decode cL_state 102 = .ok (.aload_n 0, 1) := by decide +kernel
theorem dL_state_103 : decode cL_state 103 = .ok (.iload 4, 2) := by decide +kernel
theorem dL_state_105 : decode cL_state 105 = .ok (.iload_n 3, 1) := by decide +kernel
theorem dL_state_106 : decode cL_state 106 = .ok (.invokestatic 171, 3) := by decide +kernel
theorem dL_state_109 : decode cL_state 109 = .ok (.i2l, 1) := by decide +kernel
theorem dL_state_110 : decode cL_state 110 = .ok (.ladd, 1) := by decide +kernel
theorem dL_state_111 : decode cL_state 111 = .ok (.lstore_n 1, 1) := by decide +kernel
theorem dL_state_112 : decode cL_state 112 = .ok (.iinc 4 1, 3) := by decide +kernel
theorem dL_state_115 : decode cL_state 115 = .ok (.goto (-25), 3) := by decide +kernel
theorem dL_state_118 : decode cL_state 118 = .ok (.iinc 3 1, 3) := by decide +kernel
theorem dL_state_121 : decode cL_state 121 = .ok (.goto (-43), 3) := by decide +kernel
theorem dL_state_124 : decode cL_state 124 = .ok (.iconst 0, 1) := by decide +kernel
theorem dL_state_125 : decode cL_state 125 = .ok (.istore_n 3, 1) := by decide +kernel
theorem dL_state_126 : decode cL_state 126 = .ok (.iload_n 3, 1) := by decide +kernel
theorem dL_state_127 : decode cL_state 127 = .ok (.aload_n 0, 1) := by decide +kernel
theorem dL_state_128 : decode cL_state 128 = .ok (.invokevirtual 246, 3) := by decide +kernel
theorem dL_state_131 : decode cL_state 131 = .ok (.if_icmp .ge 41, 3) := by decide +kernel
theorem dL_state_134 : decode cL_state 134 = .ok (.bipush 24, 2) := by decide +kernel
theorem dL_state_136 : decode cL_state 136 = .ok (.istore 4, 2) := by decide +kernel
theorem dL_state_138 : decode cL_state 138 = .ok (.iload 4, 2) := by decide +kernel
theorem dL_state_140 : decode cL_state 140 = .ok (.bipush 29, 2) := by decide +kernel
theorem dL_state_142 : decode cL_state 142 = .ok (.if_icmp .ge 24, 3) := by decide +kernel
theorem dL_state_145 : decode cL_state 145 = .ok (.lload_n 1, 1) := by decide +kernel
theorem dL_state_146 : decode cL_state 146 = .ok (.ldc2_w 232, 3) := by decide +kernel
theorem dL_state_149 : decode cL_state 149 = .ok (.lmul, 1) := by decide +kernel
theorem dL_state_150 : decode cL_state 150 = .ok (.aload_n 0, 1) := by decide +kernel
theorem dL_state_151 : decode cL_state 151 = .ok (.iload 4, 2) := by decide +kernel
theorem dL_state_153 : decode cL_state 153 = .ok (.iload_n 3, 1) := by decide +kernel
theorem dL_state_154 : decode cL_state 154 = .ok (.invokestatic 171, 3) := by decide +kernel
theorem dL_state_157 : decode cL_state 157 = .ok (.i2l, 1) := by decide +kernel
theorem dL_state_158 : decode cL_state 158 = .ok (.ladd, 1) := by decide +kernel
theorem dL_state_159 : decode cL_state 159 = .ok (.lstore_n 1, 1) := by decide +kernel
theorem dL_state_160 : decode cL_state 160 = .ok (.iinc 4 1, 3) := by decide +kernel
theorem dL_state_163 : decode cL_state 163 = .ok (.goto (-25), 3) := by decide +kernel
theorem dL_state_166 : decode cL_state 166 = .ok (.iinc 3 1, 3) := by decide +kernel
theorem dL_state_169 : decode cL_state 169 = .ok (.goto (-43), 3) := by decide +kernel
theorem dL_state_172 : decode cL_state 172 = .ok (.iconst 0, 1) := by decide +kernel
theorem dL_state_173 : decode cL_state 173 = .ok (.istore_n 3, 1) := by decide +kernel
theorem dL_state_174 : decode cL_state 174 = .ok (.iload_n 3, 1) := by decide +kernel
theorem dL_state_175 : decode cL_state 175 = .ok (.aload_n 0, 1) := by decide +kernel
theorem dL_state_176 : decode cL_state 176 = .ok (.invokevirtual 249, 3) := by decide +kernel
theorem dL_state_179 : decode cL_state 179 = .ok (.if_icmp .ge 41, 3) := by decide +kernel
theorem dL_state_182 : decode cL_state 182 = .ok (.bipush 30, 2) := by decide +kernel
theorem dL_state_184 : decode cL_state 184 = .ok (.istore 4, 2) := by decide +kernel
theorem dL_state_186 : decode cL_state 186 = .ok (.iload 4, 2) := by decide +kernel
theorem dL_state_188 : decode cL_state 188 = .ok (.bipush 33, 2) := by decide +kernel
theorem dL_state_190 : decode cL_state 190 = .ok (.if_icmp .ge 24, 3) := by decide +kernel
theorem dL_state_193 : decode cL_state 193 = .ok (.lload_n 1, 1) := by decide +kernel
theorem dL_state_194 : decode cL_state 194 = .ok (.ldc2_w 224, 3) := by decide +kernel
theorem dL_state_197 : decode cL_state 197 = .ok (.lmul, 1) := by decide +kernel
theorem dL_state_198 : decode cL_state 198 = .ok (.aload_n 0, 1) := by decide +kernel
theorem dL_state_199 : decode cL_state 199 = .ok (.iload 4, 2) := by decide +kernel
theorem dL_state_201 : decode cL_state 201 = .ok (.iload_n 3, 1) := by decide +kernel
theorem dL_state_202 : decode cL_state 202 = .ok (.invokestatic 171, 3) := by decide +kernel
theorem dL_state_205 : decode cL_state 205 = .ok (.i2l, 1) := by decide +kernel
theorem dL_state_206 : decode cL_state 206 = .ok (.ladd, 1) := by decide +kernel
theorem dL_state_207 : decode cL_state 207 = .ok (.lstore_n 1, 1) := by decide +kernel
theorem dL_state_208 : decode cL_state 208 = .ok (.iinc 4 1, 3) := by decide +kernel
theorem dL_state_211 : decode cL_state 211 = .ok (.goto (-25), 3) := by decide +kernel
theorem dL_state_214 : decode cL_state 214 = .ok (.iinc 3 1, 3) := by decide +kernel
theorem dL_state_217 : decode cL_state 217 = .ok (.goto (-43), 3) := by decide +kernel
theorem dL_state_220 : decode cL_state 220 = .ok (.lload_n 1, 1) := by decide +kernel
theorem dL_state_221 : decode cL_state 221 = .ok (.lreturn, 1) := by decide +kernel
theorem dL_register_0 : decode cL_register 0 = .ok (.aload_n 0, 1) := by decide +kernel
theorem dL_register_1 : decode cL_register 1 = .ok (.invokevirtual 243, 3) := by decide +kernel
theorem dL_register_4 : decode cL_register 4 = .ok (.istore_n 1, 1) := by decide +kernel
theorem dL_register_5 : decode cL_register 5 = .ok (.aload_n 0, 1) := by decide +kernel
theorem dL_register_6 : decode cL_register 6 = .ok (.invokevirtual 246, 3) := by decide +kernel
theorem dL_register_9 : decode cL_register 9 = .ok (.istore_n 2, 1) := by decide +kernel
theorem dL_register_10 : decode cL_register 10 = .ok (.aload_n 0, 1) := by decide +kernel
theorem dL_register_11 : decode cL_register 11 = .ok (.invokevirtual 249, 3) := by decide +kernel
theorem dL_register_14 : decode cL_register 14 = .ok (.istore_n 3, 1) := by decide +kernel
theorem dL_register_15 : decode cL_register 15 = .ok (.aload_n 0, 1) := by decide +kernel
theorem dL_register_16 : decode cL_register 16 = .ok (.invokevirtual 218, 3) := by decide +kernel
theorem dL_register_19 : decode cL_register 19 = .ok (.istore 4, 2) := by decide +kernel
theorem dL_register_21 : decode cL_register 21 = .ok (.iconst 0, 1) := by decide +kernel
theorem dL_register_22 : decode cL_register 22 = .ok (.istore 5, 2) := by decide +kernel
theorem dL_register_24 : decode cL_register 24 = .ok (.iconst 0, 1) := by decide +kernel
theorem dL_register_25 : decode cL_register 25 = .ok (.istore 6, 2) := by decide +kernel
theorem dL_register_27 : decode cL_register 27 = .ok (.iconst 0, 1) := by decide +kernel
theorem dL_register_28 : decode cL_register 28 = .ok (.istore 7, 2) := by decide +kernel
theorem dL_register_30 : decode cL_register 30 = .ok (.bipush 10, 2) := by decide +kernel
theorem dL_register_32 : decode cL_register 32 = .ok (.newarray .int, 2) := by decide +kernel
theorem dL_register_34 : decode cL_register 34 = .ok (.astore 8, 2) := by decide +kernel
theorem dL_register_36 : decode cL_register 36 = .ok (.bipush 10, 2) := by decide +kernel
theorem dL_register_38 : decode cL_register 38 = .ok (.newarray .int, 2) := by decide +kernel
theorem dL_register_40 : decode cL_register 40 = .ok (.astore 9, 2) := by decide +kernel
theorem dL_register_42 : decode cL_register 42 = .ok (.bipush 10, 2) := by decide +kernel
theorem dL_register_44 : decode cL_register 44 = .ok (.newarray .int, 2) := by decide +kernel
theorem dL_register_46 : decode cL_register 46 = .ok (.astore 10, 2) := by decide +kernel
theorem dL_register_48 : decode cL_register 48 = .ok (.iconst 0, 1) := by decide +kernel
theorem dL_register_49 : decode cL_register 49 = .ok (.istore 11, 2) := by decide +kernel
theorem dL_register_51 : decode cL_register 51 = .ok (.iload_n 1, 1) := by decide +kernel
theorem dL_register_52 : decode cL_register 52 = .ok (.bipush 10, 2) := by decide +kernel
theorem dL_register_54 : decode cL_register 54 = .ok (.if_icmp .gt 75, 3) := by decide +kernel
theorem dL_register_57 : decode cL_register 57 = .ok (.iload_n 2, 1) := by decide +kernel
theorem dL_register_58 : decode cL_register 58 = .ok (.bipush 12, 2) := by decide +kernel
theorem dL_register_60 : decode cL_register 60 = .ok (.if_icmp .gt 69, 3) := by decide +kernel
theorem dL_register_63 : decode cL_register 63 = .ok (.iload_n 3, 1) := by decide +kernel
theorem dL_register_64 : decode cL_register 64 = .ok (.bipush 60, 2) := by decide +kernel
theorem dL_register_66 : decode cL_register 66 = .ok (.if_icmp .gt 63, 3) := by decide +kernel
theorem dL_register_69 : decode cL_register 69 = .ok (.iload 4, 2) := by decide +kernel
theorem dL_register_71 : decode cL_register 71 = .ok (.sipush 720, 3) := by decide +kernel
theorem dL_register_74 : decode cL_register 74 = .ok (.if_icmp .gt 55, 3) := by decide +kernel
theorem dL_register_77 : decode cL_register 77 = .ok (.aload_n 0, 1) := by decide +kernel
theorem dL_register_78 : decode cL_register 78 = .ok (.bipush 18, 2) := by decide +kernel
theorem dL_register_80 : decode cL_register 80 = .ok (.iload_n 1, 1) := by decide +kernel
theorem dL_register_81 : decode cL_register 81 = .ok (.invokestatic 171, 3) := by decide +kernel
theorem dL_register_84 : decode cL_register 84 = .ok (.bipush (-104), 2) := by decide +kernel
theorem dL_register_86 : decode cL_register 86 = .ok (.if_icmp .ne 43, 3) := by decide +kernel
theorem dL_register_89 : decode cL_register 89 = .ok (.aload_n 0, 1) := by decide +kernel
theorem dL_register_90 : decode cL_register 90 = .ok (.bipush 25, 2) := by decide +kernel
theorem dL_register_92 : decode cL_register 92 = .ok (.iload_n 2, 1) := by decide +kernel
theorem dL_register_93 : decode cL_register 93 = .ok (.invokestatic 171, 3) := by decide +kernel
theorem dL_register_96 : decode cL_register 96 = .ok (.bipush (-104), 2) := by decide +kernel
theorem dL_register_98 : decode cL_register 98 = .ok (.if_icmp .ne 31, 3) := by decide +kernel
theorem dL_register_101 : decode cL_register 101 = .ok (.aload_n 0, 1) := by decide +kernel
theorem dL_register_102 : decode cL_register 102 = .ok (.bipush 30, 2) := by decide +kernel
theorem dL_register_104 : decode cL_register 104 = .ok (.iload_n 3, 1) := by decide +kernel
theorem dL_register_105 : decode cL_register 105 = .ok (.invokestatic 171, 3) := by decide +kernel
theorem dL_register_108 : decode cL_register 108 = .ok (.bipush (-104), 2) := by decide +kernel
theorem dL_register_110 : decode cL_register 110 = .ok (.if_icmp .ne 19, 3) := by decide +kernel
theorem dL_register_113 : decode cL_register 113 = .ok (.aload_n 0, 1) := by decide +kernel
theorem dL_register_114 : decode cL_register 114 = .ok (.bipush 42, 2) := by decide +kernel
theorem dL_register_116 : decode cL_register 116 = .ok (.iload_n 1, 1) := by decide +kernel
theorem dL_register_117 : decode cL_register 117 = .ok (.invokestatic 171, 3) := by decide +kernel
theorem dL_register_120 : decode cL_register 120 = .ok (.bipush (-104), 2) := by decide +kernel
theorem dL_register_122 : decode cL_register 122 = .ok (.if_icmp .ne 7, 3) := by decide +kernel
theorem dL_register_125 : decode cL_register 125 = .ok (.iconst 1, 1) := by decide +kernel
theorem dL_register_126 : decode cL_register 126 = .ok (.goto 4, 3) := by decide +kernel
theorem dL_register_129 : decode cL_register 129 = .ok (.iconst 0, 1) := by decide +kernel
theorem dL_register_130 : decode cL_register 130 = .ok (.istore 12, 2) := by decide +kernel
theorem dL_register_132 : decode cL_register 132 = .ok (.iconst 0, 1) := by decide +kernel
theorem dL_register_133 : decode cL_register 133 = .ok (.istore 13, 2) := by decide +kernel
theorem dL_register_135 : decode cL_register 135 = .ok (.iload 13, 2) := by decide +kernel
theorem dL_register_137 : decode cL_register 137 = .ok (.iload_n 3, 1) := by decide +kernel
theorem dL_register_138 : decode cL_register 138 = .ok (.if_icmp .ge 120, 3) := by decide +kernel
theorem dL_register_141 : decode cL_register 141 = .ok (.iload 12, 2) := by decide +kernel
theorem dL_register_143 : decode cL_register 143 = .ok (.ifCond .eq 115, 3) := by decide +kernel
theorem dL_register_146 : decode cL_register 146 = .ok (.aload_n 0, 1) := by decide +kernel
theorem dL_register_147 : decode cL_register 147 = .ok (.bipush 30, 2) := by decide +kernel
theorem dL_register_149 : decode cL_register 149 = .ok (.iload 13, 2) := by decide +kernel
theorem dL_register_151 : decode cL_register 151 = .ok (.invokestatic 171, 3) := by decide +kernel
theorem dL_register_154 : decode cL_register 154 = .ok (.istore 14, 2) := by decide +kernel
theorem dL_register_156 : decode cL_register 156 = .ok (.aload_n 0, 1) := by decide +kernel
theorem dL_register_157 : decode cL_register 157 = .ok (.bipush 31, 2) := by decide +kernel
theorem dL_register_159 : decode cL_register 159 = .ok (.iload 13, 2) := by decide +kernel
theorem dL_register_161 : decode cL_register 161 = .ok (.invokestatic 171, 3) := by decide +kernel
theorem dL_register_164 : decode cL_register 164 = .ok (.istore 15, 2) := by decide +kernel
theorem dL_register_166 : decode cL_register 166 = .ok (.aload_n 0, 1) := by decide +kernel
theorem dL_register_167 : decode cL_register 167 = .ok (.bipush 32, 2) := by decide +kernel
theorem dL_register_169 : decode cL_register 169 = .ok (.iload 13, 2) := by decide +kernel
theorem dL_register_171 : decode cL_register 171 = .ok (.invokestatic 171, 3) := by decide +kernel
theorem dL_register_174 : decode cL_register 174 = .ok (.istore 16, 2) := by decide +kernel
theorem dL_register_176 : decode cL_register 176 = .ok (.iload 14, 2) := by decide +kernel
theorem dL_register_178 : decode cL_register 178 = .ok (.iload 11, 2) := by decide +kernel
theorem dL_register_180 : decode cL_register 180 = .ok (.if_icmp .lt 26, 3) := by decide +kernel
theorem dL_register_183 : decode cL_register 183 = .ok (.iload 14, 2) := by decide +kernel
theorem dL_register_185 : decode cL_register 185 = .ok (.iload 4, 2) := by decide +kernel
theorem dL_register_187 : decode cL_register 187 = .ok (.if_icmp .gt 19, 3) := by decide +kernel
theorem dL_register_190 : decode cL_register 190 = .ok (.iload 16, 2) := by decide +kernel
theorem dL_register_192 : decode cL_register 192 = .ok (.iconst 1, 1) := by decide +kernel
theorem dL_register_193 : decode cL_register 193 = .ok (.aload 8, 2) := by decide +kernel
theorem dL_register_195 : decode cL_register 195 = .ok (.iload 15, 2) := by decide +kernel
theorem dL_register_197 : decode cL_register 197 = .ok (.iaload, 1) := by decide +kernel
theorem dL_register_198 : decode cL_register 198 = .ok (.isub, 1) := by decide +kernel
theorem dL_register_199 : decode cL_register 199 = .ok (.if_icmp .ne 7, 3) := by decide +kernel
theorem dL_register_202 : decode cL_register 202 = .ok (.iconst 1, 1) := by decide +kernel
theorem dL_register_203 : decode cL_register 203 = .ok (.goto 4, 3) := by decide +kernel
theorem dL_register_206 : decode cL_register 206 = .ok (.iconst 0, 1) := by decide +kernel
theorem dL_register_207 : decode cL_register 207 = .ok (.istore 12, 2) := by decide +kernel
theorem dL_register_209 : decode cL_register 209 = .ok (.iload 14, 2) := by decide +kernel
theorem dL_register_211 : decode cL_register 211 = .ok (.istore 11, 2) := by decide +kernel
theorem dL_register_213 : decode cL_register 213 = .ok (.iload 16, 2) := by decide +kernel
theorem dL_register_215 : decode cL_register 215 = .ok (.iconst 1, 1) := by decide +kernel
theorem dL_register_216 : decode cL_register 216 = .ok (.if_icmp .ne 13, 3) := by decide +kernel
theorem dL_register_219 : decode cL_register 219 = .ok (.aload 9, 2) := by decide +kernel
theorem dL_register_221 : decode cL_register 221 = .ok (.iload 15, 2) := by decide +kernel
theorem dL_register_223 : decode cL_register 223 = .ok (.iload 14, 2) := by decide +kernel
theorem dL_register_225 : decode cL_register 225 = .ok (.iastore, 1) := by decide +kernel
theorem dL_register_226 : decode cL_register 226 = .ok (.goto 19, 3) := by decide +kernel
theorem dL_register_229 : decode cL_register 229 = .ok (.aload 10, 2) := by decide +kernel
theorem dL_register_231 : decode cL_register 231 = .ok (.iload 15, 2) := by decide +kernel
theorem dL_register_233 : decode cL_register 233 = .ok (.dup2, 1) := by decide +kernel
theorem dL_register_234 : decode cL_register 234 = .ok (.iaload, 1) := by decide +kernel
theorem dL_register_235 : decode cL_register 235 = .ok (.iload 14, 2) := by decide +kernel
theorem dL_register_237 : decode cL_register 237 = .ok (.aload 9, 2) := by decide +kernel
theorem dL_register_239 : decode cL_register 239 = .ok (.iload 15, 2) := by decide +kernel
theorem dL_register_241 : decode cL_register 241 = .ok (.iaload, 1) := by decide +kernel
theorem dL_register_242 : decode cL_register 242 = .ok (.isub, 1) := by decide +kernel
theorem dL_register_243 : decode cL_register 243 = .ok (.iadd, 1) := by decide +kernel
theorem dL_register_244 : decode cL_register 244 = .ok (.iastore, 1) := by decide +kernel
theorem dL_register_245 : decode cL_register 245 = .ok (.aload 8, 2) := by decide +kernel
theorem dL_register_247 : decode cL_register 247 = .ok (.iload 15, 2) := by decide +kernel
theorem dL_register_249 : decode cL_register 249 = .ok (.iload 16, 2) := by decide +kernel
theorem dL_register_251 : decode cL_register 251 = .ok (.iastore, 1) := by decide +kernel
theorem dL_register_252 : decode cL_register 252 = .ok (.iinc 13 1, 3) := by decide +kernel
theorem dL_register_255 : decode cL_register 255 = .ok (.goto (-120), 3) := by decide +kernel
theorem dL_register_258 : decode cL_register 258 = .ok (.iconst 0, 1) := by decide +kernel
theorem dL_register_259 : decode cL_register 259 = .ok (.istore 13, 2) := by decide +kernel
theorem dL_register_261 : decode cL_register 261 = .ok (.iconst 0, 1) := by decide +kernel
theorem dL_register_262 : decode cL_register 262 = .ok (.istore 14, 2) := by decide +kernel
theorem dL_register_264 : decode cL_register 264 = .ok (.iload 14, 2) := by decide +kernel
theorem dL_register_266 : decode cL_register 266 = .ok (.iload_n 1, 1) := by decide +kernel
theorem dL_register_267 : decode cL_register 267 = .ok (.if_icmp .ge 285, 3) := by decide +kernel
theorem dL_register_270 : decode cL_register 270 = .ok (.iload 12, 2) := by decide +kernel
theorem dL_register_272 : decode cL_register 272 = .ok (.ifCond .eq 280, 3) := by decide +kernel
theorem dL_register_275 : decode cL_register 275 = .ok (.aload_n 0, 1) := by decide +kernel
theorem dL_register_276 : decode cL_register 276 = .ok (.bipush 20, 2) := by decide +kernel
theorem dL_register_278 : decode cL_register 278 = .ok (.iload 14, 2) := by decide +kernel
theorem dL_register_280 : decode cL_register 280 = .ok (.invokestatic 171, 3) := by decide +kernel
theorem dL_register_283 : decode cL_register 283 = .ok (.istore 15, 2) := by decide +kernel
theorem dL_register_285 : decode cL_register 285 = .ok (.aload 10, 2) := by decide +kernel
theorem dL_register_287 : decode cL_register 287 = .ok (.iload 14, 2) := by decide +kernel
theorem dL_register_289 : decode cL_register 289 = .ok (.iaload, 1) := by decide +kernel
theorem dL_register_290 : decode cL_register 290 = .ok (.iload 15, 2) := by decide +kernel
theorem dL_register_292 : decode cL_register 292 = .ok (.iconst 1, 1) := by decide +kernel
theorem dL_register_293 : decode cL_register 293 = .ok (.if_icmp .ne 14, 3) := by decide +kernel
theorem dL_register_296 : decode cL_register 296 = .ok (.iload 4, 2) := by decide +kernel
theorem dL_register_298 : decode cL_register 298 = .ok (.aload 9, 2) := by decide +kernel
theorem dL_register_300 : decode cL_register 300 = .ok (.iload 14, 2) := by decide +kernel
theorem dL_register_302 : decode cL_register 302 = .ok (.iaload, 1) := by decide +kernel
theorem dL_register_303 : decode cL_register 303 = .ok (.isub, 1) := by decide +kernel
theorem dL_register_304 : decode cL_register 304 = .ok (.goto 4, 3) := by decide +kernel
theorem dL_register_307 : decode cL_register 307 = .ok (.iconst 0, 1) := by decide +kernel
theorem dL_register_308 : decode cL_register 308 = .ok (.iadd, 1) := by decide +kernel
theorem dL_register_309 : decode cL_register 309 = .ok (.istore 16, 2) := by decide +kernel
theorem dL_register_311 : decode cL_register 311 = .ok (.iload 5, 2) := by decide +kernel
theorem dL_register_313 : decode cL_register 313 = .ok (.iload 15, 2) := by decide +kernel
theorem dL_register_315 : decode cL_register 315 = .ok (.iadd, 1) := by decide +kernel
theorem dL_register_316 : decode cL_register 316 = .ok (.istore 5, 2) := by decide +kernel
theorem dL_register_318 : decode cL_register 318 = .ok (.iload 13, 2) := by decide +kernel
theorem dL_register_320 : decode cL_register 320 = .ok (.iload 16, 2) := by decide +kernel
theorem dL_register_322 : decode cL_register 322 = .ok (.iadd, 1) := by decide +kernel
theorem dL_register_323 : decode cL_register 323 = .ok (.istore 13, 2) := by decide +kernel
theorem dL_register_325 : decode cL_register 325 = .ok (.aload_n 0, 1) := by decide +kernel
theorem dL_register_326 : decode cL_register 326 = .ok (.bipush 29, 2) := by decide +kernel
theorem dL_register_328 : decode cL_register 328 = .ok (.iload 14, 2) := by decide +kernel
theorem dL_register_330 : decode cL_register 330 = .ok (.invokestatic 171, 3) := by decide +kernel
theorem dL_register_333 : decode cL_register 333 = .ok (.istore 17, 2) := by decide +kernel
theorem dL_register_335 : decode cL_register 335 = .ok (.aload_n 0, 1) := by decide +kernel
theorem dL_register_336 : decode cL_register 336 = .ok (.bipush 19, 2) := by decide +kernel
theorem dL_register_338 : decode cL_register 338 = .ok (.iload 14, 2) := by decide +kernel
theorem dL_register_340 : decode cL_register 340 = .ok (.invokestatic 171, 3) := by decide +kernel
theorem dL_register_343 : decode cL_register 343 = .ok (.istore 18, 2) := by decide +kernel
theorem dL_register_345 : decode cL_register 345 = .ok (.iload 15, 2) := by decide +kernel
theorem dL_register_347 : decode cL_register 347 = .ok (.aload 8, 2) := by decide +kernel
theorem dL_register_349 : decode cL_register 349 = .ok (.iload 14, 2) := by decide +kernel
theorem dL_register_351 : decode cL_register 351 = .ok (.iaload, 1) := by decide +kernel
theorem dL_register_352 : decode cL_register 352 = .ok (.if_icmp .ne 191, 3) := by decide +kernel
theorem dL_register_355 : decode cL_register 355 = .ok (.aload_n 0, 1) := by decide +kernel
theorem dL_register_356 : decode cL_register 356 = .ok (.bipush 21, 2) := by decide +kernel
theorem dL_register_358 : decode cL_register 358 = .ok (.iload 14, 2) := by decide +kernel
theorem dL_register_360 : decode cL_register 360 = .ok (.invokestatic 171, 3) := by decide +kernel
theorem dL_register_363 : decode cL_register 363 = .ok (.iload 15, 2) := by decide +kernel
theorem dL_register_365 : decode cL_register 365 = .ok (.iconst 1, 1) := by decide +kernel
theorem dL_register_366 : decode cL_register 366 = .ok (.if_icmp .ne 11, 3) := by decide +kernel
theorem dL_register_369 : decode cL_register 369 = .ok (.aload 9, 2) := by decide +kernel
theorem dL_register_371 : decode cL_register 371 = .ok (.iload 14, 2) := by decide +kernel
theorem dL_register_373 : decode cL_register 373 = .ok (.iaload, 1) := by decide +kernel
theorem dL_register_374 : decode cL_register 374 = .ok (.goto 5, 3) := by decide +kernel
theorem dL_register_377 : decode cL_register 377 = .ok (.bipush (-101), 2) := by decide +kernel
theorem dL_register_379 : decode cL_register 379 = .ok (.if_icmp .ne 164, 3) := by decide +kernel
theorem dL_register_382 : decode cL_register 382 = .ok (.aload_n 0, 1) := by decide +kernel
theorem dL_register_383 : decode cL_register 383 = .ok (.bipush 37, 2) := by decide +kernel
theorem dL_register_385 : decode cL_register 385 = .ok (.iload 14, 2) := by decide +kernel
theorem dL_register_387 : decode cL_register 387 = .ok (.invokestatic 171, 3) := by decide +kernel
theorem dL_register_390 : decode cL_register 390 = .ok (.iload 16, 2) := by decide +kernel
theorem dL_register_392 : decode cL_register 392 = .ok (.if_icmp .ne 151, 3) := by decide +kernel
theorem dL_register_395 : decode cL_register 395 = .ok (.aload_n 0, 1) := by decide +kernel
theorem dL_register_396 : decode cL_register 396 = .ok (.bipush 38, 2) := by decide +kernel
theorem dL_register_398 : decode cL_register 398 = .ok (.iload 14, 2) := by decide +kernel
theorem dL_register_400 : decode cL_register 400 = .ok (.iload 14, 2) := by decide +kernel
theorem dL_register_402 : decode cL_register 402 = .ok (.invokestatic 252, 3) := by decide +kernel
theorem dL_register_405 : decode cL_register 405 = .ok (.iload 16, 2) := by decide +kernel
theorem dL_register_407 : decode cL_register 407 = .ok (.if_icmp .ne 136, 3) := by decide +kernel
theorem dL_register_410 : decode cL_register 410 = .ok (.iload 17, 2) := by decide +kernel
theorem dL_register_412 : decode cL_register 412 = .ok (.bipush (-101), 2) := by decide +kernel
theorem dL_register_414 : decode cL_register 414 = .ok (.if_icmp .eq 22, 3) := by decide +kernel
theorem dL_register_417 : decode cL_register 417 = .ok (.iload 15, 2) := by decide +kernel
theorem dL_register_419 : decode cL_register 419 = .ok (.iconst 1, 1) := by decide +kernel
theorem dL_register_420 : decode cL_register 420 = .ok (.if_icmp .ne 123, 3) := by decide +kernel
theorem dL_register_423 : decode cL_register 423 = .ok (.aload_n 0, 1) := by decide +kernel
theorem dL_register_424 : decode cL_register 424 = .ok (.bipush 28, 2) := by decide +kernel
theorem dL_register_426 : decode cL_register 426 = .ok (.iload 17, 2) := by decide +kernel
theorem dL_register_428 : decode cL_register 428 = .ok (.invokestatic 171, 3) := by decide +kernel
theorem dL_register_431 : decode cL_register 431 = .ok (.iload 14, 2) := by decide +kernel
theorem dL_register_433 : decode cL_register 433 = .ok (.if_icmp .ne 110, 3) := by decide +kernel
theorem dL_register_436 : decode cL_register 436 = .ok (.aload_n 0, 1) := by decide +kernel
theorem dL_register_437 : decode cL_register 437 = .ok (.bipush 22, 2) := by decide +kernel
theorem dL_register_439 : decode cL_register 439 = .ok (.iload 14, 2) := by decide +kernel
theorem dL_register_441 : decode cL_register 441 = .ok (.invokestatic 171, 3) := by decide +kernel
theorem dL_register_444 : decode cL_register 444 = .ok (.ifCond .lt 99, 3) := by decide +kernel
theorem dL_register_447 : decode cL_register 447 = .ok (.aload_n 0, 1) := by decide +kernel
theorem dL_register_448 : decode cL_register 448 = .ok (.bipush 23, 2) := by decide +kernel
theorem dL_register_450 : decode cL_register 450 = .ok (.iload 14, 2) := by decide +kernel
theorem dL_register_452 : decode cL_register 452 = .ok (.invokestatic 171, 3) := by decide +kernel
theorem dL_register_455 : decode cL_register 455 = .ok (.ifCond .eq 29, 3) := by decide +kernel
theorem dL_register_458 : decode cL_register 458 = .ok (.iload 15, 2) := by decide +kernel
theorem dL_register_460 : decode cL_register 460 = .ok (.iconst 1, 1) := by decide +kernel
theorem dL_register_461 : decode cL_register 461 = .ok (.if_icmp .ne 82, 3) := by decide +kernel
theorem dL_register_464 : decode cL_register 464 = .ok (.iload 18, 2) := by decide +kernel
theorem dL_register_466 : decode cL_register 466 = .ok (.ifCond .le 77, 3) := by decide +kernel
theorem dL_register_469 : decode cL_register 469 = .ok (.iload 4, 2) := by decide +kernel
theorem dL_register_471 : decode cL_register 471 = .ok (.iconst 1, 1) := by decide +kernel
theorem dL_register_472 : decode cL_register 472 = .ok (.iadd, 1) := by decide +kernel
theorem dL_register_473 : decode cL_register 473 = .ok (.aload 9, 2) := by decide +kernel
theorem dL_register_475 : decode cL_register 475 = .ok (.iload 14, 2) := by decide +kernel
theorem dL_register_477 : decode cL_register 477 = .ok (.iaload, 1) := by decide +kernel
theorem dL_register_478 : decode cL_register 478 = .ok (.isub, 1) := by decide +kernel
theorem dL_register_479 : decode cL_register 479 = .ok (.bipush 10, 2) := by decide +kernel
theorem dL_register_481 : decode cL_register 481 = .ok (.if_icmp .le 62, 3) := by decide +kernel
theorem dL_register_484 : decode cL_register 484 = .ok (.aload_n 0, 1) := by decide +kernel
theorem dL_register_485 : decode cL_register 485 = .ok (.bipush 40, 2) := by decide +kernel
theorem dL_register_487 : decode cL_register 487 = .ok (.iload 14, 2) := by decide +kernel
theorem dL_register_489 : decode cL_register 489 = .ok (.invokestatic 171, 3) := by decide +kernel
theorem dL_register_492 : decode cL_register 492 = .ok (.iload 15, 2) := by decide +kernel
theorem dL_register_494 : decode cL_register 494 = .ok (.ifCond .ne 8, 3) := by decide +kernel
theorem dL_register_497 : decode cL_register 497 = .ok (.bipush (-102), 2) := by decide +kernel
theorem dL_register_499 : decode cL_register 499 = .ok (.goto 37, 3) := by decide +kernel
theorem dL_register_502 : decode cL_register 502 = .ok (.iconst 0, 1) := by decide +kernel
theorem dL_register_503 : decode cL_register 503 = .ok (.aload_n 0, 1) := by decide +kernel
theorem dL_register_504 : decode cL_register 504 = .ok (.bipush 18, 2) := by decide +kernel
theorem dL_register_506 : decode cL_register 506 = .ok (.iload 14, 2) := by decide +kernel
theorem dL_register_508 : decode cL_register 508 = .ok (.invokestatic 171, 3) := by decide +kernel
theorem dL_register_511 : decode cL_register 511 = .ok (.aload_n 0, 1) := by decide +kernel
theorem dL_register_512 : decode cL_register 512 = .ok (.invokevirtual 255, 3) := by decide +kernel
theorem dL_register_515 : decode cL_register 515 = .ok (.isub, 1) := by decide +kernel
theorem dL_register_516 : decode cL_register 516 = .ok (.aload_n 0, 1) := by decide +kernel
theorem dL_register_517 : decode cL_register 517 = .ok (.bipush 22, 2) := by decide +kernel
theorem dL_register_519 : decode cL_register 519 = .ok (.iload 14, 2) := by decide +kernel
theorem dL_register_521 : decode cL_register 521 = .ok (.invokestatic 171, 3) := by decide +kernel
theorem dL_register_524 : decode cL_register 524 = .ok (.ifCond .ne 7, 3) := by decide +kernel
theorem dL_register_527 : decode cL_register 527 = .ok (.iconst 0, 1) := by decide +kernel
theorem dL_register_528 : decode cL_register 528 = .ok (.goto 4, 3) := by decide +kernel
theorem dL_register_531 : decode cL_register 531 = .ok (.iconst 1, 1) := by decide +kernel
theorem dL_register_532 : decode cL_register 532 = .ok (.isub, 1) := by decide +kernel
theorem dL_register_533 : decode cL_register 533 = .ok (.invokestatic 258, 3) := by decide +kernel
theorem dL_register_536 : decode cL_register 536 = .ok (.if_icmp .ne 7, 3) := by decide +kernel
theorem dL_register_539 : decode cL_register 539 = .ok (.iconst 1, 1) := by decide +kernel
theorem dL_register_540 : decode cL_register 540 = .ok (.goto 4, 3) := by decide +kernel
theorem dL_register_543 : decode cL_register 543 = .ok (.iconst 0, 1) := by decide +kernel
theorem dL_register_544 : decode cL_register 544 = .ok (.istore 12, 2) := by decide +kernel
theorem dL_register_546 : decode cL_register 546 = .ok (.iinc 14 1, 3) := by decide +kernel
theorem dL_register_549 : decode cL_register 549 = .ok (.goto (-285), 3) := by decide +kernel
theorem dL_register_552 : decode cL_register 552 = .ok (.iconst 0, 1) := by decide +kernel
theorem dL_register_553 : decode cL_register 553 = .ok (.istore 14, 2) := by decide +kernel
theorem dL_register_555 : decode cL_register 555 = .ok (.iload 14, 2) := by decide +kernel
theorem dL_register_557 : decode cL_register 557 = .ok (.iload_n 2, 1) := by decide +kernel
theorem dL_register_558 : decode cL_register 558 = .ok (.if_icmp .ge 165, 3) := by decide +kernel
theorem dL_register_561 : decode cL_register 561 = .ok (.iload 12, 2) := by decide +kernel
theorem dL_register_563 : decode cL_register 563 = .ok (.ifCond .eq 160, 3) := by decide +kernel
theorem dL_register_566 : decode cL_register 566 = .ok (.aload_n 0, 1) := by decide +kernel
theorem dL_register_567 : decode cL_register 567 = .ok (.bipush 28, 2) := by decide +kernel
theorem dL_register_569 : decode cL_register 569 = .ok (.iload 14, 2) := by decide +kernel
theorem dL_register_571 : decode cL_register 571 = .ok (.invokestatic 171, 3) := by decide +kernel
theorem dL_register_574 : decode cL_register 574 = .ok (.istore 15, 2) := by decide +kernel
theorem dL_register_576 : decode cL_register 576 = .ok (.aload_n 0, 1) := by decide +kernel
theorem dL_register_577 : decode cL_register 577 = .ok (.bipush 25, 2) := by decide +kernel
theorem dL_register_579 : decode cL_register 579 = .ok (.iload 14, 2) := by decide +kernel
theorem dL_register_581 : decode cL_register 581 = .ok (.invokestatic 171, 3) := by decide +kernel
theorem dL_register_584 : decode cL_register 584 = .ok (.istore 16, 2) := by decide +kernel
theorem dL_register_586 : decode cL_register 586 = .ok (.iload 6, 2) := by decide +kernel
theorem dL_register_588 : decode cL_register 588 = .ok (.aload_n 0, 1) := by decide +kernel
theorem dL_register_589 : decode cL_register 589 = .ok (.bipush 26, 2) := by decide +kernel
theorem dL_register_591 : decode cL_register 591 = .ok (.iload 14, 2) := by decide +kernel
theorem dL_register_593 : decode cL_register 593 = .ok (.invokestatic 171, 3) := by decide +kernel
theorem dL_register_596 : decode cL_register 596 = .ok (.iadd, 1) := by decide +kernel
theorem dL_register_597 : decode cL_register 597 = .ok (.istore 6, 2) := by decide +kernel
theorem dL_register_599 : decode cL_register 599 = .ok (.iload 15, 2) := by decide +kernel
theorem dL_register_601 : decode cL_register 601 = .ok (.ifCond .lt 19, 3) := by decide +kernel
theorem dL_register_604 : decode cL_register 604 = .ok (.iload 15, 2) := by decide +kernel
theorem dL_register_606 : decode cL_register 606 = .ok (.aload_n 0, 1) := by decide +kernel
theorem dL_register_607 : decode cL_register 607 = .ok (.bipush 24, 2) := by decide +kernel
theorem dL_register_609 : decode cL_register 609 = .ok (.iload 14, 2) := by decide +kernel
theorem dL_register_611 : decode cL_register 611 = .ok (.invokestatic 171, 3) := by decide +kernel
theorem dL_register_614 : decode cL_register 614 = .ok (.if_icmp .eq 6, 3) := by decide +kernel
theorem dL_register_617 : decode cL_register 617 = .ok (.iinc 7 1, 3) := by decide +kernel
theorem dL_register_620 : decode cL_register 620 = .ok (.iload 16, 2) := by decide +kernel
theorem dL_register_622 : decode cL_register 622 = .ok (.ifCond .lt 92, 3) := by decide +kernel
theorem dL_register_625 : decode cL_register 625 = .ok (.iload 16, 2) := by decide +kernel
theorem dL_register_627 : decode cL_register 627 = .ok (.bipush 100, 2) := by decide +kernel
theorem dL_register_629 : decode cL_register 629 = .ok (.if_icmp .ge 85, 3) := by decide +kernel
theorem dL_register_632 : decode cL_register 632 = .ok (.aload_n 0, 1) := by decide +kernel
theorem dL_register_633 : decode cL_register 633 = .ok (.bipush 26, 2) := by decide +kernel
theorem dL_register_635 : decode cL_register 635 = .ok (.iload 14, 2) := by decide +kernel
theorem dL_register_637 : decode cL_register 637 = .ok (.invokestatic 171, 3) := by decide +kernel
theorem dL_register_640 : decode cL_register 640 = .ok (.iconst 1, 1) := by decide +kernel
theorem dL_register_641 : decode cL_register 641 = .ok (.if_icmp .ne 7, 3) := by decide +kernel
theorem dL_register_644 : decode cL_register 644 = .ok (.iconst 1, 1) := by decide +kernel
theorem dL_register_645 : decode cL_register 645 = .ok (.goto 4, 3) := by decide +kernel
theorem dL_register_648 : decode cL_register 648 = .ok (.iconst 0, 1) := by decide +kernel
theorem dL_register_649 : decode cL_register 649 = .ok (.iload 15, 2) := by decide +kernel
theorem dL_register_651 : decode cL_register 651 = .ok (.bipush (-101), 2) := by decide +kernel
theorem dL_register_653 : decode cL_register 653 = .ok (.if_icmp .ne 7, 3) := by decide +kernel
theorem dL_register_656 : decode cL_register 656 = .ok (.iconst 1, 1) := by decide +kernel
theorem dL_register_657 : decode cL_register 657 = .ok (.goto 4, 3) := by decide +kernel
theorem dL_register_660 : decode cL_register 660 = .ok (.iconst 0, 1) := by decide +kernel
theorem dL_register_661 : decode cL_register 661 = .ok (.if_icmp .ne 53, 3) := by decide +kernel
theorem dL_register_664 : decode cL_register 664 = .ok (.iload 15, 2) := by decide +kernel
theorem dL_register_666 : decode cL_register 666 = .ok (.ifCond .lt 16, 3) := by decide +kernel
theorem dL_register_669 : decode cL_register 669 = .ok (.aload_n 0, 1) := by decide +kernel
theorem dL_register_670 : decode cL_register 670 = .ok (.bipush 29, 2) := by decide +kernel
theorem dL_register_672 : decode cL_register 672 = .ok (.iload 15, 2) := by decide +kernel
theorem dL_register_674 : decode cL_register 674 = .ok (.invokestatic 171, 3) := by decide +kernel
theorem dL_register_677 : decode cL_register 677 = .ok (.iload 14, 2) := by decide +kernel
theorem dL_register_679 : decode cL_register 679 = .ok (.if_icmp .ne 35, 3) := by decide +kernel
theorem dL_register_682 : decode cL_register 682 = .ok (.aload_n 0, 1) := by decide +kernel
theorem dL_register_683 : decode cL_register 683 = .ok (.bipush 27, 2) := by decide +kernel
theorem dL_register_685 : decode cL_register 685 = .ok (.iload 14, 2) := by decide +kernel
theorem dL_register_687 : decode cL_register 687 = .ok (.invokestatic 171, 3) := by decide +kernel
theorem dL_register_690 : decode cL_register 690 = .ok (.iload 15, 2) := by decide +kernel
theorem dL_register_692 : decode cL_register 692 = .ok (.ifCond .ge 14, 3) := by decide +kernel
theorem dL_register_695 : decode cL_register 695 = .ok (.iload 16, 2) := by decide +kernel
theorem dL_register_697 : decode cL_register 697 = .ok (.bipush 50, 2) := by decide +kernel
theorem dL_register_699 : decode cL_register 699 = .ok (.if_icmp .gt 7, 3) := by decide +kernel
theorem dL_register_702 : decode cL_register 702 = .ok (.iconst 1, 1) := by decide +kernel
theorem dL_register_703 : decode cL_register 703 = .ok (.goto 4, 3) := by decide +kernel
theorem dL_register_706 : decode cL_register 706 = .ok (.iconst 0, 1) := by decide +kernel
theorem dL_register_707 : decode cL_register 707 = .ok (.if_icmp .ne 7, 3) := by decide +kernel
theorem dL_register_710 : decode cL_register 710 = .ok (.iconst 1, 1) := by decide +kernel
theorem dL_register_711 : decode cL_register 711 = .ok (.goto 4, 3) := by decide +kernel
theorem dL_register_714 : decode cL_register 714 = .ok (.iconst 0, 1) := by decide +kernel
theorem dL_register_715 : decode cL_register 715 = .ok (.istore 12, 2) := by decide +kernel
theorem dL_register_717 : decode cL_register 717 = .ok (.iinc 14 1, 3) := by decide +kernel
theorem dL_register_720 : decode cL_register 720 = .ok (.goto (-165), 3) := by decide +kernel
theorem dL_register_723 : decode cL_register 723 = .ok (.iload 12, 2) := by decide +kernel
theorem dL_register_725 : decode cL_register 725 = .ok (.ifCond .eq 98, 3) := by decide +kernel
theorem dL_register_728 : decode cL_register 728 = .ok (.iload 5, 2) := by decide +kernel
theorem dL_register_730 : decode cL_register 730 = .ok (.aload_n 0, 1) := by decide +kernel
theorem dL_register_731 : decode cL_register 731 = .ok (.invokevirtual 263, 3) := by decide +kernel
theorem dL_register_734 : decode cL_register 734 = .ok (.if_icmp .ne 89, 3) := by decide +kernel
theorem dL_register_737 : decode cL_register 737 = .ok (.iload 6, 2) := by decide +kernel
theorem dL_register_739 : decode cL_register 739 = .ok (.aload_n 0, 1) := by decide +kernel
theorem dL_register_740 : decode cL_register 740 = .ok (.invokevirtual 266, 3) := by decide +kernel
theorem dL_register_743 : decode cL_register 743 = .ok (.if_icmp .ne 80, 3) := by decide +kernel
theorem dL_register_746 : decode cL_register 746 = .ok (.iload 7, 2) := by decide +kernel
theorem dL_register_748 : decode cL_register 748 = .ok (.aload_n 0, 1) := by decide +kernel
theorem dL_register_749 : decode cL_register 749 = .ok (.invokevirtual 269, 3) := by decide +kernel
theorem dL_register_752 : decode cL_register 752 = .ok (.if_icmp .ne 71, 3) := by decide +kernel
theorem dL_register_755 : decode cL_register 755 = .ok (.aload_n 0, 1) := by decide +kernel
theorem dL_register_756 : decode cL_register 756 = .ok (.invokevirtual 255, 3) := by decide +kernel
theorem dL_register_759 : decode cL_register 759 = .ok (.bipush 9, 2) := by decide +kernel
theorem dL_register_761 : decode cL_register 761 = .ok (.iload 4, 2) := by decide +kernel
theorem dL_register_763 : decode cL_register 763 = .ok (.iload 11, 2) := by decide +kernel
theorem dL_register_765 : decode cL_register 765 = .ok (.isub, 1) := by decide +kernel
theorem dL_register_766 : decode cL_register 766 = .ok (.bipush 30, 2) := by decide +kernel
theorem dL_register_768 : decode cL_register 768 = .ok (.idiv, 1) := by decide +kernel
theorem dL_register_769 : decode cL_register 769 = .ok (.invokestatic 272, 3) := by decide +kernel
theorem dL_register_772 : decode cL_register 772 = .ok (.if_icmp .ne 51, 3) := by decide +kernel
theorem dL_register_775 : decode cL_register 775 = .ok (.aload_n 0, 1) := by decide +kernel
theorem dL_register_776 : decode cL_register 776 = .ok (.invokevirtual 275, 3) := by decide +kernel
theorem dL_register_779 : decode cL_register 779 = .ok (.iload_n 1, 1) := by decide +kernel
theorem dL_register_780 : decode cL_register 780 = .ok (.ifCond .ne 7, 3) := by decide +kernel
theorem dL_register_783 : decode cL_register 783 = .ok (.dconst 0, 1) := by decide +kernel
theorem dL_register_784 : decode cL_register 784 = .ok (.goto 9, 3) := by decide +kernel
theorem dL_register_787 : decode cL_register 787 = .ok (.iload 13, 2) := by decide +kernel
theorem dL_register_789 : decode cL_register 789 = .ok (.i2d, 1) := by decide +kernel
theorem dL_register_790 : decode cL_register 790 = .ok (.iload_n 1, 1) := by decide +kernel
theorem dL_register_791 : decode cL_register 791 = .ok (.i2d, 1) := by decide +kernel
theorem dL_register_792 : decode cL_register 792 = .ok (.ddiv, 1) := by decide +kernel
theorem dL_register_793 : decode cL_register 793 = .ok (.dcmp .l, 1) := by decide +kernel
theorem dL_register_794 : decode cL_register 794 = .ok (.ifCond .ne 29, 3) := by decide +kernel
theorem dL_register_797 : decode cL_register 797 = .ok (.aload_n 0, 1) := by decide +kernel
theorem dL_register_798 : decode cL_register 798 = .ok (.invokevirtual 279, 3) := by decide +kernel
theorem dL_register_801 : decode cL_register 801 = .ok (.iload_n 1, 1) := by decide +kernel
theorem dL_register_802 : decode cL_register 802 = .ok (.ifCond .ne 7, 3) := by decide +kernel
theorem dL_register_805 : decode cL_register 805 = .ok (.fconst 0, 1) := by decide +kernel
theorem dL_register_806 : decode cL_register 806 = .ok (.goto 9, 3) := by decide +kernel
theorem dL_register_809 : decode cL_register 809 = .ok (.iload 5, 2) := by decide +kernel
theorem dL_register_811 : decode cL_register 811 = .ok (.i2f, 1) := by decide +kernel
theorem dL_register_812 : decode cL_register 812 = .ok (.iload_n 1, 1) := by decide +kernel
theorem dL_register_813 : decode cL_register 813 = .ok (.i2f, 1) := by decide +kernel
theorem dL_register_814 : decode cL_register 814 = .ok (.fdiv, 1) := by decide +kernel
theorem dL_register_815 : decode cL_register 815 = .ok (.fcmp .l, 1) := by decide +kernel
theorem dL_register_816 : decode cL_register 816 = .ok (.ifCond .ne 7, 3) := by decide +kernel
theorem dL_register_819 : decode cL_register 819 = .ok (.iconst 1, 1) := by decide +kernel
theorem dL_register_820 : decode cL_register 820 = .ok (.goto 4, 3) := by decide +kernel
theorem dL_register_823 : decode cL_register 823 = .ok (.iconst 0, 1) := by decide +kernel
theorem dL_register_824 : decode cL_register 824 = .ok (.ireturn, 1) := by decide +kernel
theorem dL_alibis_0 : decode cL_alibis 0 = .ok (.aload_n 0, 1) := by decide +kernel
theorem dL_alibis_1 : decode cL_alibis 1 = .ok (.invokevirtual 243, 3) := by decide +kernel
theorem dL_alibis_4 : decode cL_alibis 4 = .ok (.istore_n 3, 1) := by decide +kernel
theorem dL_alibis_5 : decode cL_alibis 5 = .ok (.aload_n 0, 1) := by decide +kernel
theorem dL_alibis_6 : decode cL_alibis 6 = .ok (.invokevirtual 218, 3) := by decide +kernel
theorem dL_alibis_9 : decode cL_alibis 9 = .ok (.istore 4, 2) := by decide +kernel
theorem dL_alibis_11 : decode cL_alibis 11 = .ok (.aload_n 0, 1) := by decide +kernel
theorem dL_alibis_12 : decode cL_alibis 12 = .ok (.bipush 33, 2) := by decide +kernel
theorem dL_alibis_14 : decode cL_alibis 14 = .ok (.iconst 0, 1) := by decide +kernel
theorem dL_alibis_15 : decode cL_alibis 15 = .ok (.iload 4, 2) := by decide +kernel
theorem dL_alibis_17 : decode cL_alibis 17 = .ok (.invokestatic 252, 3) := by decide +kernel
theorem dL_alibis_20 : decode cL_alibis 20 = .ok (.iload_n 3, 1) := by decide +kernel
theorem dL_alibis_21 : decode cL_alibis 21 = .ok (.ifCond .ne 8, 3) := by decide +kernel
theorem dL_alibis_24 : decode cL_alibis 24 = .ok (.bipush (-104), 2) := by decide +kernel
theorem dL_alibis_26 : decode cL_alibis 26 = .ok (.goto 5, 3) := by decide +kernel
theorem dL_alibis_29 : decode cL_alibis 29 = .ok (.bipush (-103), 2) := by decide +kernel
theorem dL_alibis_31 : decode cL_alibis 31 = .ok (.if_icmp .ne 34, 3) := by decide +kernel
theorem dL_alibis_34 : decode cL_alibis 34 = .ok (.aload_n 0, 1) := by decide +kernel
theorem dL_alibis_35 : decode cL_alibis 35 = .ok (.bipush 35, 2) := by decide +kernel
theorem dL_alibis_37 : decode cL_alibis 37 = .ok (.iconst 0, 1) := by decide +kernel
theorem dL_alibis_38 : decode cL_alibis 38 = .ok (.iload 4, 2) := by decide +kernel
theorem dL_alibis_40 : decode cL_alibis 40 = .ok (.invokestatic 252, 3) := by decide +kernel
theorem dL_alibis_43 : decode cL_alibis 43 = .ok (.bipush (-103), 2) := by decide +kernel
theorem dL_alibis_45 : decode cL_alibis 45 = .ok (.if_icmp .ne 20, 3) := by decide +kernel
theorem dL_alibis_48 : decode cL_alibis 48 = .ok (.aload_n 0, 1) := by decide +kernel
theorem dL_alibis_49 : decode cL_alibis 49 = .ok (.bipush 36, 2) := by decide +kernel
theorem dL_alibis_51 : decode cL_alibis 51 = .ok (.iconst (-1), 1) := by decide +kernel
theorem dL_alibis_52 : decode cL_alibis 52 = .ok (.iconst 0, 1) := by decide +kernel
theorem dL_alibis_53 : decode cL_alibis 53 = .ok (.invokestatic 252, 3) := by decide +kernel
theorem dL_alibis_56 : decode cL_alibis 56 = .ok (.bipush (-103), 2) := by decide +kernel
theorem dL_alibis_58 : decode cL_alibis 58 = .ok (.if_icmp .ne 7, 3) := by decide +kernel
theorem dL_alibis_61 : decode cL_alibis 61 = .ok (.iconst 1, 1) := by decide +kernel
theorem dL_alibis_62 : decode cL_alibis 62 = .ok (.goto 4, 3) := by decide +kernel
theorem dL_alibis_65 : decode cL_alibis 65 = .ok (.iconst 0, 1) := by decide +kernel
theorem dL_alibis_66 : decode cL_alibis 66 = .ok (.istore 5, 2) := by decide +kernel
theorem dL_alibis_68 : decode cL_alibis 68 = .ok (.iconst 0, 1) := by decide +kernel
theorem dL_alibis_69 : decode cL_alibis 69 = .ok (.istore 6, 2) := by decide +kernel
theorem dL_alibis_71 : decode cL_alibis 71 = .ok (.iload 6, 2) := by decide +kernel
theorem dL_alibis_73 : decode cL_alibis 73 = .ok (.iconst 3, 1) := by decide +kernel
theorem dL_alibis_74 : decode cL_alibis 74 = .ok (.if_icmp .ge 415, 3) := by decide +kernel
theorem dL_alibis_77 : decode cL_alibis 77 = .ok (.iload 5, 2) := by decide +kernel
theorem dL_alibis_79 : decode cL_alibis 79 = .ok (.ifCond .eq 410, 3) := by decide +kernel
theorem dL_alibis_82 : decode cL_alibis 82 = .ok (.iload 4, 2) := by decide +kernel
theorem dL_alibis_84 : decode cL_alibis 84 = .ok (.ifCond .le 405, 3) := by decide +kernel
theorem dL_alibis_87 : decode cL_alibis 87 = .ok (.iload_n 1, 1) := by decide +kernel
theorem dL_alibis_88 : decode cL_alibis 88 = .ok (.iconst 3, 1) := by decide +kernel
theorem dL_alibis_89 : decode cL_alibis 89 = .ok (.iload 6, 2) := by decide +kernel
theorem dL_alibis_91 : decode cL_alibis 91 = .ok (.imul, 1) := by decide +kernel
theorem dL_alibis_92 : decode cL_alibis 92 = .ok (.ishr, 1) := by decide +kernel
theorem dL_alibis_93 : decode cL_alibis 93 = .ok (.ldc_w 283, 3) := by decide +kernel
theorem dL_alibis_96 : decode cL_alibis 96 = .ok (.iand, 1) := by decide +kernel
theorem dL_alibis_97 : decode cL_alibis 97 = .ok (.iload 4, 2) := by decide +kernel
theorem dL_alibis_99 : decode cL_alibis 99 = .ok (.irem, 1) := by decide +kernel
theorem dL_alibis_100 : decode cL_alibis 100 = .ok (.istore 7, 2) := by decide +kernel
theorem dL_alibis_102 : decode cL_alibis 102 = .ok (.iload 4, 2) := by decide +kernel
theorem dL_alibis_104 : decode cL_alibis 104 = .ok (.iconst 1, 1) := by decide +kernel
theorem dL_alibis_105 : decode cL_alibis 105 = .ok (.isub, 1) := by decide +kernel
theorem dL_alibis_106 : decode cL_alibis 106 = .ok (.iload 7, 2) := by decide +kernel
theorem dL_alibis_108 : decode cL_alibis 108 = .ok (.iload_n 2, 1) := by decide +kernel
theorem dL_alibis_109 : decode cL_alibis 109 = .ok (.iconst 2, 1) := by decide +kernel
theorem dL_alibis_110 : decode cL_alibis 110 = .ok (.iload 6, 2) := by decide +kernel
theorem dL_alibis_112 : decode cL_alibis 112 = .ok (.imul, 1) := by decide +kernel
theorem dL_alibis_113 : decode cL_alibis 113 = .ok (.ishr, 1) := by decide +kernel
theorem dL_alibis_114 : decode cL_alibis 114 = .ok (.bipush 63, 2) := by decide +kernel
theorem dL_alibis_116 : decode cL_alibis 116 = .ok (.iand, 1) := by decide +kernel
theorem dL_alibis_117 : decode cL_alibis 117 = .ok (.iadd, 1) := by decide +kernel
theorem dL_alibis_118 : decode cL_alibis 118 = .ok (.invokestatic 272, 3) := by decide +kernel
theorem dL_alibis_121 : decode cL_alibis 121 = .ok (.istore 8, 2) := by decide +kernel
theorem dL_alibis_123 : decode cL_alibis 123 = .ok (.iconst 0, 1) := by decide +kernel
theorem dL_alibis_124 : decode cL_alibis 124 = .ok (.istore 9, 2) := by decide +kernel
theorem dL_alibis_126 : decode cL_alibis 126 = .ok (.bipush (-101), 2) := by decide +kernel
theorem dL_alibis_128 : decode cL_alibis 128 = .ok (.istore 10, 2) := by decide +kernel
theorem dL_alibis_130 : decode cL_alibis 130 = .ok (.iconst 0, 1) := by decide +kernel
theorem dL_alibis_131 : decode cL_alibis 131 = .ok (.istore 11, 2) := by decide +kernel
theorem dL_alibis_133 : decode cL_alibis 133 = .ok (.iload 11, 2) := by decide +kernel
theorem dL_alibis_135 : decode cL_alibis 135 = .ok (.iload_n 3, 1) := by decide +kernel
theorem dL_alibis_136 : decode cL_alibis 136 = .ok (.if_icmp .ge 109, 3) := by decide +kernel
theorem dL_alibis_139 : decode cL_alibis 139 = .ok (.iload 5, 2) := by decide +kernel
theorem dL_alibis_141 : decode cL_alibis 141 = .ok (.ifCond .eq 104, 3) := by decide +kernel
theorem dL_alibis_144 : decode cL_alibis 144 = .ok (.iconst 0, 1) := by decide +kernel
theorem dL_alibis_145 : decode cL_alibis 145 = .ok (.istore 12, 2) := by decide +kernel
theorem dL_alibis_147 : decode cL_alibis 147 = .ok (.iload 7, 2) := by decide +kernel
theorem dL_alibis_149 : decode cL_alibis 149 = .ok (.istore 13, 2) := by decide +kernel
theorem dL_alibis_151 : decode cL_alibis 151 = .ok (.iload 13, 2) := by decide +kernel
theorem dL_alibis_153 : decode cL_alibis 153 = .ok (.iload 8, 2) := by decide +kernel
theorem dL_alibis_155 : decode cL_alibis 155 = .ok (.if_icmp .gt 35, 3) := by decide +kernel
theorem dL_alibis_158 : decode cL_alibis 158 = .ok (.iload 12, 2) := by decide +kernel
theorem dL_alibis_160 : decode cL_alibis 160 = .ok (.ifCond .ne 17, 3) := by decide +kernel
theorem dL_alibis_163 : decode cL_alibis 163 = .ok (.aload_n 0, 1) := by decide +kernel
theorem dL_alibis_164 : decode cL_alibis 164 = .ok (.bipush 33, 2) := by decide +kernel
theorem dL_alibis_166 : decode cL_alibis 166 = .ok (.iload 11, 2) := by decide +kernel
theorem dL_alibis_168 : decode cL_alibis 168 = .ok (.iload 13, 2) := by decide +kernel
theorem dL_alibis_170 : decode cL_alibis 170 = .ok (.invokestatic 252, 3) := by decide +kernel
theorem dL_alibis_173 : decode cL_alibis 173 = .ok (.iconst 1, 1) := by decide +kernel
theorem dL_alibis_174 : decode cL_alibis 174 = .ok (.if_icmp .ne 7, 3) := by decide +kernel
theorem dL_alibis_177 : decode cL_alibis 177 = .ok (.iconst 1, 1) := by decide +kernel
theorem dL_alibis_178 : decode cL_alibis 178 = .ok (.goto 4, 3) := by decide +kernel
theorem dL_alibis_181 : decode cL_alibis 181 = .ok (.iconst 0, 1) := by decide +kernel
theorem dL_alibis_182 : decode cL_alibis 182 = .ok (.istore 12, 2) := by decide +kernel
theorem dL_alibis_184 : decode cL_alibis 184 = .ok (.iinc 13 1, 3) := by decide +kernel
theorem dL_alibis_187 : decode cL_alibis 187 = .ok (.goto (-36), 3) := by decide +kernel
theorem dL_alibis_190 : decode cL_alibis 190 = .ok (.aload_n 0, 1) := by decide +kernel
theorem dL_alibis_191 : decode cL_alibis 191 = .ok (.bipush 34, 2) := by decide +kernel
theorem dL_alibis_193 : decode cL_alibis 193 = .ok (.iload 11, 2) := by decide +kernel
theorem dL_alibis_195 : decode cL_alibis 195 = .ok (.iload 7, 2) := by decide +kernel
theorem dL_alibis_197 : decode cL_alibis 197 = .ok (.iload 8, 2) := by decide +kernel
theorem dL_alibis_199 : decode cL_alibis 199 = .ok (.iconst 0, 1) := by decide +kernel
theorem dL_alibis_200 : decode cL_alibis 200 = .ok (.iconst 0, 1) := by decide +kernel
theorem dL_alibis_201 : decode cL_alibis 201 = .ok (.invokestatic 158, 3) := by decide +kernel
theorem dL_alibis_204 : decode cL_alibis 204 = .ok (.iload 12, 2) := by decide +kernel
theorem dL_alibis_206 : decode cL_alibis 206 = .ok (.ifCond .eq 7, 3) := by decide +kernel
theorem dL_alibis_209 : decode cL_alibis 209 = .ok (.iconst 0, 1) := by decide +kernel
theorem dL_alibis_210 : decode cL_alibis 210 = .ok (.goto 4, 3) := by decide +kernel
theorem dL_alibis_213 : decode cL_alibis 213 = .ok (.iconst 1, 1) := by decide +kernel
theorem dL_alibis_214 : decode cL_alibis 214 = .ok (.if_icmp .ne 7, 3) := by decide +kernel
theorem dL_alibis_217 : decode cL_alibis 217 = .ok (.iconst 1, 1) := by decide +kernel
theorem dL_alibis_218 : decode cL_alibis 218 = .ok (.goto 4, 3) := by decide +kernel
theorem dL_alibis_221 : decode cL_alibis 221 = .ok (.iconst 0, 1) := by decide +kernel
theorem dL_alibis_222 : decode cL_alibis 222 = .ok (.istore 5, 2) := by decide +kernel
theorem dL_alibis_224 : decode cL_alibis 224 = .ok (.iload 12, 2) := by decide +kernel
theorem dL_alibis_226 : decode cL_alibis 226 = .ok (.ifCond .ne 6, 3) := by decide +kernel
theorem dL_alibis_229 : decode cL_alibis 229 = .ok (.goto 10, 3) := by decide +kernel
theorem dL_alibis_232 : decode cL_alibis 232 = .ok (.iinc 9 1, 3) := by decide +kernel
theorem dL_alibis_235 : decode cL_alibis 235 = .ok (.iload 11, 2) := by decide +kernel
theorem dL_alibis_237 : decode cL_alibis 237 = .ok (.istore 10, 2) := by decide +kernel
theorem dL_alibis_239 : decode cL_alibis 239 = .ok (.iinc 11 1, 3) := by decide +kernel
theorem dL_alibis_242 : decode cL_alibis 242 = .ok (.goto (-109), 3) := by decide +kernel
theorem dL_alibis_245 : decode cL_alibis 245 = .ok (.iload 5, 2) := by decide +kernel
theorem dL_alibis_247 : decode cL_alibis 247 = .ok (.ifCond .eq 70, 3) := by decide +kernel
theorem dL_alibis_250 : decode cL_alibis 250 = .ok (.aload_n 0, 1) := by decide +kernel
theorem dL_alibis_251 : decode cL_alibis 251 = .ok (.bipush 35, 2) := by decide +kernel
theorem dL_alibis_253 : decode cL_alibis 253 = .ok (.iload 7, 2) := by decide +kernel
theorem dL_alibis_255 : decode cL_alibis 255 = .ok (.iload 8, 2) := by decide +kernel
theorem dL_alibis_257 : decode cL_alibis 257 = .ok (.invokestatic 252, 3) := by decide +kernel
theorem dL_alibis_260 : decode cL_alibis 260 = .ok (.iload 9, 2) := by decide +kernel
theorem dL_alibis_262 : decode cL_alibis 262 = .ok (.if_icmp .ne 55, 3) := by decide +kernel
theorem dL_alibis_265 : decode cL_alibis 265 = .ok (.aload_n 0, 1) := by decide +kernel
theorem dL_alibis_266 : decode cL_alibis 266 = .ok (.bipush 36, 2) := by decide +kernel
theorem dL_alibis_268 : decode cL_alibis 268 = .ok (.iload 7, 2) := by decide +kernel
theorem dL_alibis_270 : decode cL_alibis 270 = .ok (.iload 8, 2) := by decide +kernel
theorem dL_alibis_272 : decode cL_alibis 272 = .ok (.invokestatic 252, 3) := by decide +kernel
theorem dL_alibis_275 : decode cL_alibis 275 = .ok (.iload 9, 2) := by decide +kernel
theorem dL_alibis_277 : decode cL_alibis 277 = .ok (.iconst 1, 1) := by decide +kernel
theorem dL_alibis_278 : decode cL_alibis 278 = .ok (.if_icmp .ne 8, 3) := by decide +kernel
theorem dL_alibis_281 : decode cL_alibis 281 = .ok (.iload 10, 2) := by decide +kernel
theorem dL_alibis_283 : decode cL_alibis 283 = .ok (.goto 5, 3) := by decide +kernel
theorem dL_alibis_286 : decode cL_alibis 286 = .ok (.bipush (-101), 2) := by decide +kernel
theorem dL_alibis_288 : decode cL_alibis 288 = .ok (.if_icmp .ne 29, 3) := by decide +kernel
theorem dL_alibis_291 : decode cL_alibis 291 = .ok (.iload 7, 2) := by decide +kernel
theorem dL_alibis_293 : decode cL_alibis 293 = .ok (.iload 8, 2) := by decide +kernel
theorem dL_alibis_295 : decode cL_alibis 295 = .ok (.if_icmp .eq 18, 3) := by decide +kernel
theorem dL_alibis_298 : decode cL_alibis 298 = .ok (.aload_n 0, 1) := by decide +kernel
theorem dL_alibis_299 : decode cL_alibis 299 = .ok (.bipush 35, 2) := by decide +kernel
theorem dL_alibis_301 : decode cL_alibis 301 = .ok (.iload 8, 2) := by decide +kernel
theorem dL_alibis_303 : decode cL_alibis 303 = .ok (.iload 7, 2) := by decide +kernel
theorem dL_alibis_305 : decode cL_alibis 305 = .ok (.invokestatic 252, 3) := by decide +kernel
theorem dL_alibis_308 : decode cL_alibis 308 = .ok (.bipush (-103), 2) := by decide +kernel
theorem dL_alibis_310 : decode cL_alibis 310 = .ok (.if_icmp .ne 7, 3) := by decide +kernel
theorem dL_alibis_313 : decode cL_alibis 313 = .ok (.iconst 1, 1) := by decide +kernel
theorem dL_alibis_314 : decode cL_alibis 314 = .ok (.goto 4, 3) := by decide +kernel
theorem dL_alibis_317 : decode cL_alibis 317 = .ok (.iconst 0, 1) := by decide +kernel
theorem dL_alibis_318 : decode cL_alibis 318 = .ok (.istore 5, 2) := by decide +kernel
theorem dL_alibis_320 : decode cL_alibis 320 = .ok (.iload_n 3, 1) := by decide +kernel
theorem dL_alibis_321 : decode cL_alibis 321 = .ok (.ifCond .ne 7, 3) := by decide +kernel
theorem dL_alibis_324 : decode cL_alibis 324 = .ok (.iconst 0, 1) := by decide +kernel
theorem dL_alibis_325 : decode cL_alibis 325 = .ok (.goto 13, 3) := by decide +kernel
theorem dL_alibis_328 : decode cL_alibis 328 = .ok (.iload_n 1, 1) := by decide +kernel
theorem dL_alibis_329 : decode cL_alibis 329 = .ok (.iload 6, 2) := by decide +kernel
theorem dL_alibis_331 : decode cL_alibis 331 = .ok (.ishr, 1) := by decide +kernel
theorem dL_alibis_332 : decode cL_alibis 332 = .ok (.sipush 255, 3) := by decide +kernel
theorem dL_alibis_335 : decode cL_alibis 335 = .ok (.iand, 1) := by decide +kernel
theorem dL_alibis_336 : decode cL_alibis 336 = .ok (.iload_n 3, 1) := by decide +kernel
theorem dL_alibis_337 : decode cL_alibis 337 = .ok (.irem, 1) := by decide +kernel
theorem dL_alibis_338 : decode cL_alibis 338 = .ok (.istore 11, 2) := by decide +kernel
theorem dL_alibis_340 : decode cL_alibis 340 = .ok (.iload_n 3, 1) := by decide +kernel
theorem dL_alibis_341 : decode cL_alibis 341 = .ok (.ifCond .ne 7, 3) := by decide +kernel
theorem dL_alibis_344 : decode cL_alibis 344 = .ok (.iconst 0, 1) := by decide +kernel
theorem dL_alibis_345 : decode cL_alibis 345 = .ok (.goto 13, 3) := by decide +kernel
theorem dL_alibis_348 : decode cL_alibis 348 = .ok (.iload_n 2, 1) := by decide +kernel
theorem dL_alibis_349 : decode cL_alibis 349 = .ok (.iload 6, 2) := by decide +kernel
theorem dL_alibis_351 : decode cL_alibis 351 = .ok (.ishr, 1) := by decide +kernel
theorem dL_alibis_352 : decode cL_alibis 352 = .ok (.sipush 255, 3) := by decide +kernel
theorem dL_alibis_355 : decode cL_alibis 355 = .ok (.iand, 1) := by decide +kernel
theorem dL_alibis_356 : decode cL_alibis 356 = .ok (.iload_n 3, 1) := by decide +kernel
theorem dL_alibis_357 : decode cL_alibis 357 = .ok (.irem, 1) := by decide +kernel
theorem dL_alibis_358 : decode cL_alibis 358 = .ok (.istore 12, 2) := by decide +kernel
theorem dL_alibis_360 : decode cL_alibis 360 = .ok (.iload_n 3, 1) := by decide +kernel
theorem dL_alibis_361 : decode cL_alibis 361 = .ok (.ifCond .eq 122, 3) := by decide +kernel
theorem dL_alibis_364 : decode cL_alibis 364 = .ok (.iload 6, 2) := by decide +kernel
theorem dL_alibis_366 : decode cL_alibis 366 = .ok (.ifCond .le 6, 3) := by decide +kernel
theorem dL_alibis_369 : decode cL_alibis 369 = .ok (.goto 114, 3) := by decide +kernel
theorem dL_alibis_372 : decode cL_alibis 372 = .ok (.iconst 0, 1) := by decide +kernel
theorem dL_alibis_373 : decode cL_alibis 373 = .ok (.istore 13, 2) := by decide +kernel
theorem dL_alibis_375 : decode cL_alibis 375 = .ok (.iconst 0, 1) := by decide +kernel
theorem dL_alibis_376 : decode cL_alibis 376 = .ok (.istore 14, 2) := by decide +kernel
theorem dL_alibis_378 : decode cL_alibis 378 = .ok (.iconst 0, 1) := by decide +kernel
theorem dL_alibis_379 : decode cL_alibis 379 = .ok (.istore 15, 2) := by decide +kernel
theorem dL_alibis_381 : decode cL_alibis 381 = .ok (.iload 15, 2) := by decide +kernel
theorem dL_alibis_383 : decode cL_alibis 383 = .ok (.iload 4, 2) := by decide +kernel
theorem dL_alibis_385 : decode cL_alibis 385 = .ok (.if_icmp .ge 43, 3) := by decide +kernel
theorem dL_alibis_388 : decode cL_alibis 388 = .ok (.aload_n 0, 1) := by decide +kernel
theorem dL_alibis_389 : decode cL_alibis 389 = .ok (.bipush 33, 2) := by decide +kernel
theorem dL_alibis_391 : decode cL_alibis 391 = .ok (.iload 11, 2) := by decide +kernel
theorem dL_alibis_393 : decode cL_alibis 393 = .ok (.iload 15, 2) := by decide +kernel
theorem dL_alibis_395 : decode cL_alibis 395 = .ok (.invokestatic 252, 3) := by decide +kernel
theorem dL_alibis_398 : decode cL_alibis 398 = .ok (.ifCond .ne 6, 3) := by decide +kernel
theorem dL_alibis_401 : decode cL_alibis 401 = .ok (.goto 21, 3) := by decide +kernel
theorem dL_alibis_404 : decode cL_alibis 404 = .ok (.iinc 13 1, 3) := by decide +kernel
theorem dL_alibis_407 : decode cL_alibis 407 = .ok (.iload 14, 2) := by decide +kernel
theorem dL_alibis_409 : decode cL_alibis 409 = .ok (.aload_n 0, 1) := by decide +kernel
theorem dL_alibis_410 : decode cL_alibis 410 = .ok (.bipush 33, 2) := by decide +kernel
theorem dL_alibis_412 : decode cL_alibis 412 = .ok (.iload 12, 2) := by decide +kernel
theorem dL_alibis_414 : decode cL_alibis 414 = .ok (.iload 15, 2) := by decide +kernel
theorem dL_alibis_416 : decode cL_alibis 416 = .ok (.invokestatic 252, 3) := by decide +kernel
theorem dL_alibis_419 : decode cL_alibis 419 = .ok (.iadd, 1) := by decide +kernel
theorem dL_alibis_420 : decode cL_alibis 420 = .ok (.istore 14, 2) := by decide +kernel
theorem dL_alibis_422 : decode cL_alibis 422 = .ok (.iinc 15 1, 3) := by decide +kernel
theorem dL_alibis_425 : decode cL_alibis 425 = .ok (.goto (-44), 3) := by decide +kernel
theorem dL_alibis_428 : decode cL_alibis 428 = .ok (.iload 5, 2) := by decide +kernel
theorem dL_alibis_430 : decode cL_alibis 430 = .ok (.ifCond .eq 50, 3) := by decide +kernel
theorem dL_alibis_433 : decode cL_alibis 433 = .ok (.aload_n 0, 1) := by decide +kernel
theorem dL_alibis_434 : decode cL_alibis 434 = .ok (.bipush 37, 2) := by decide +kernel
theorem dL_alibis_436 : decode cL_alibis 436 = .ok (.iload 11, 2) := by decide +kernel
theorem dL_alibis_438 : decode cL_alibis 438 = .ok (.invokestatic 171, 3) := by decide +kernel
theorem dL_alibis_441 : decode cL_alibis 441 = .ok (.iload 13, 2) := by decide +kernel
theorem dL_alibis_443 : decode cL_alibis 443 = .ok (.if_icmp .ne 37, 3) := by decide +kernel
theorem dL_alibis_446 : decode cL_alibis 446 = .ok (.aload_n 0, 1) := by decide +kernel
theorem dL_alibis_447 : decode cL_alibis 447 = .ok (.bipush 38, 2) := by decide +kernel
theorem dL_alibis_449 : decode cL_alibis 449 = .ok (.iload 11, 2) := by decide +kernel
theorem dL_alibis_451 : decode cL_alibis 451 = .ok (.iload 12, 2) := by decide +kernel
theorem dL_alibis_453 : decode cL_alibis 453 = .ok (.invokestatic 252, 3) := by decide +kernel
theorem dL_alibis_456 : decode cL_alibis 456 = .ok (.iload 14, 2) := by decide +kernel
theorem dL_alibis_458 : decode cL_alibis 458 = .ok (.if_icmp .ne 22, 3) := by decide +kernel
theorem dL_alibis_461 : decode cL_alibis 461 = .ok (.aload_n 0, 1) := by decide +kernel
theorem dL_alibis_462 : decode cL_alibis 462 = .ok (.bipush 38, 2) := by decide +kernel
theorem dL_alibis_464 : decode cL_alibis 464 = .ok (.iload 12, 2) := by decide +kernel
theorem dL_alibis_466 : decode cL_alibis 466 = .ok (.iload 11, 2) := by decide +kernel
theorem dL_alibis_468 : decode cL_alibis 468 = .ok (.invokestatic 252, 3) := by decide +kernel
theorem dL_alibis_471 : decode cL_alibis 471 = .ok (.iload 14, 2) := by decide +kernel
theorem dL_alibis_473 : decode cL_alibis 473 = .ok (.if_icmp .ne 7, 3) := by decide +kernel
theorem dL_alibis_476 : decode cL_alibis 476 = .ok (.iconst 1, 1) := by decide +kernel
theorem dL_alibis_477 : decode cL_alibis 477 = .ok (.goto 4, 3) := by decide +kernel
theorem dL_alibis_480 : decode cL_alibis 480 = .ok (.iconst 0, 1) := by decide +kernel
theorem dL_alibis_481 : decode cL_alibis 481 = .ok (.istore 5, 2) := by decide +kernel
theorem dL_alibis_483 : decode cL_alibis 483 = .ok (.iinc 6 1, 3) := by decide +kernel
theorem dL_alibis_486 : decode cL_alibis 486 = .ok (.goto (-415), 3) := by decide +kernel
theorem dL_alibis_489 : decode cL_alibis 489 = .ok (.iload 5, 2) := by decide +kernel
theorem dL_alibis_491 : decode cL_alibis 491 = .ok (.ireturn, 1) := by decide +kernel
theorem dL_goes_0 : decode cL_goes 0 = .ok (.aload_n 0, 1) := by decide +kernel
theorem dL_goes_1 : decode cL_goes 1 = .ok (.invokestatic 284, 3) := by decide +kernel
theorem dL_goes_4 : decode cL_goes 4 = .ok (.lstore_n 1, 1) := by decide +kernel
theorem dL_goes_5 : decode cL_goes 5 = .ok (.iconst 1, 1) := by decide +kernel
theorem dL_goes_6 : decode cL_goes 6 = .ok (.istore_n 3, 1) := by decide +kernel
theorem dL_goes_7 : decode cL_goes 7 = .ok (.iconst 0, 1) := by decide +kernel
theorem dL_goes_8 : decode cL_goes 8 = .ok (.istore 4, 2) := by decide +kernel
theorem dL_goes_10 : decode cL_goes 10 = .ok (.iload 4, 2) := by decide +kernel
theorem dL_goes_12 : decode cL_goes 12 = .ok (.aload_n 0, 1) := by decide +kernel
theorem dL_goes_13 : decode cL_goes 13 = .ok (.invokevirtual 243, 3) := by decide +kernel
theorem dL_goes_16 : decode cL_goes 16 = .ok (.if_icmp .ge 599, 3) := by decide +kernel
theorem dL_goes_19 : decode cL_goes 19 = .ok (.iload_n 3, 1) := by decide +kernel
theorem dL_goes_20 : decode cL_goes 20 = .ok (.ifCond .eq 595, 3) := by decide +kernel
theorem dL_goes_23 : decode cL_goes 23 = .ok (.aload_n 0, 1) := by decide +kernel
theorem dL_goes_24 : decode cL_goes 24 = .ok (.invokevirtual 249, 3) := by decide +kernel
theorem dL_goes_27 : decode cL_goes 27 = .ok (.istore 5, 2) := by decide +kernel
theorem dL_goes_29 : decode cL_goes 29 = .ok (.aload_n 0, 1) := by decide +kernel
theorem dL_goes_30 : decode cL_goes 30 = .ok (.invokevirtual 263, 3) := by decide +kernel
theorem dL_goes_33 : decode cL_goes 33 = .ok (.istore 6, 2) := by decide +kernel
theorem dL_goes_35 : decode cL_goes 35 = .ok (.aload_n 0, 1) := by decide +kernel
theorem dL_goes_36 : decode cL_goes 36 = .ok (.invokevirtual 240, 3) := by decide +kernel
theorem dL_goes_39 : decode cL_goes 39 = .ok (.istore 7, 2) := by decide +kernel
theorem dL_goes_41 : decode cL_goes 41 = .ok (.aload_n 0, 1) := by decide +kernel
theorem dL_goes_42 : decode cL_goes 42 = .ok (.bipush 20, 2) := by decide +kernel
theorem dL_goes_44 : decode cL_goes 44 = .ok (.iload 4, 2) := by decide +kernel
theorem dL_goes_46 : decode cL_goes 46 = .ok (.invokestatic 171, 3) := by decide +kernel
theorem dL_goes_49 : decode cL_goes 49 = .ok (.iconst 1, 1) := by decide +kernel
theorem dL_goes_50 : decode cL_goes 50 = .ok (.if_icmp .ne 185, 3) := by decide +kernel
theorem dL_goes_53 : decode cL_goes 53 = .ok (.aload_n 0, 1) := by decide +kernel
theorem dL_goes_54 : decode cL_goes 54 = .ok (.bipush 40, 2) := by decide +kernel
theorem dL_goes_56 : decode cL_goes 56 = .ok (.iload 4, 2) := by decide +kernel
theorem dL_goes_58 : decode cL_goes 58 = .ok (.invokestatic 171, 3) := by decide +kernel
theorem dL_goes_61 : decode cL_goes 61 = .ok (.istore 8, 2) := by decide +kernel
theorem dL_goes_63 : decode cL_goes 63 = .ok (.aload_n 0, 1) := by decide +kernel
theorem dL_goes_64 : decode cL_goes 64 = .ok (.bipush 29, 2) := by decide +kernel
theorem dL_goes_66 : decode cL_goes 66 = .ok (.iload 4, 2) := by decide +kernel
theorem dL_goes_68 : decode cL_goes 68 = .ok (.invokestatic 171, 3) := by decide +kernel
theorem dL_goes_71 : decode cL_goes 71 = .ok (.istore 9, 2) := by decide +kernel
theorem dL_goes_73 : decode cL_goes 73 = .ok (.aload_n 0, 1) := by decide +kernel
theorem dL_goes_74 : decode cL_goes 74 = .ok (.iconst 2, 1) := by decide +kernel
theorem dL_goes_75 : decode cL_goes 75 = .ok (.iload 4, 2) := by decide +kernel
theorem dL_goes_77 : decode cL_goes 77 = .ok (.invokestatic 171, 3) := by decide +kernel
theorem dL_goes_80 : decode cL_goes 80 = .ok (.bipush (-102), 2) := by decide +kernel
theorem dL_goes_82 : decode cL_goes 82 = .ok (.if_icmp .ne 20, 3) := by decide +kernel
theorem dL_goes_85 : decode cL_goes 85 = .ok (.aload_n 0, 1) := by decide +kernel
theorem dL_goes_86 : decode cL_goes 86 = .ok (.bipush 39, 2) := by decide +kernel
theorem dL_goes_88 : decode cL_goes 88 = .ok (.iload 4, 2) := by decide +kernel
theorem dL_goes_90 : decode cL_goes 90 = .ok (.invokestatic 171, 3) := by decide +kernel
theorem dL_goes_93 : decode cL_goes 93 = .ok (.bipush (-102), 2) := by decide +kernel
theorem dL_goes_95 : decode cL_goes 95 = .ok (.if_icmp .ne 7, 3) := by decide +kernel
theorem dL_goes_98 : decode cL_goes 98 = .ok (.iconst 1, 1) := by decide +kernel
theorem dL_goes_99 : decode cL_goes 99 = .ok (.goto 4, 3) := by decide +kernel
theorem dL_goes_102 : decode cL_goes 102 = .ok (.iconst 0, 1) := by decide +kernel
theorem dL_goes_103 : decode cL_goes 103 = .ok (.istore_n 3, 1) := by decide +kernel
theorem dL_goes_104 : decode cL_goes 104 = .ok (.aload_n 0, 1) := by decide +kernel
theorem dL_goes_105 : decode cL_goes 105 = .ok (.iconst 3, 1) := by decide +kernel
theorem dL_goes_106 : decode cL_goes 106 = .ok (.iload 4, 2) := by decide +kernel
theorem dL_goes_108 : decode cL_goes 108 = .ok (.invokestatic 171, 3) := by decide +kernel
theorem dL_goes_111 : decode cL_goes 111 = .ok (.istore 10, 2) := by decide +kernel
theorem dL_goes_113 : decode cL_goes 113 = .ok (.iload 5, 2) := by decide +kernel
theorem dL_goes_115 : decode cL_goes 115 = .ok (.bipush 60, 2) := by decide +kernel
theorem dL_goes_117 : decode cL_goes 117 = .ok (.if_icmp .ne 23, 3) := by decide +kernel
theorem dL_goes_120 : decode cL_goes 120 = .ok (.iload_n 3, 1) := by decide +kernel
theorem dL_goes_121 : decode cL_goes 121 = .ok (.ifCond .eq 14, 3) := by decide +kernel
theorem dL_goes_124 : decode cL_goes 124 = .ok (.iload 10, 2) := by decide +kernel
theorem dL_goes_126 : decode cL_goes 126 = .ok (.bipush (-102), 2) := by decide +kernel
theorem dL_goes_128 : decode cL_goes 128 = .ok (.if_icmp .ne 7, 3) := by decide +kernel
theorem dL_goes_131 : decode cL_goes 131 = .ok (.iconst 1, 1) := by decide +kernel
theorem dL_goes_132 : decode cL_goes 132 = .ok (.goto 4, 3) := by decide +kernel
theorem dL_goes_135 : decode cL_goes 135 = .ok (.iconst 0, 1) := by decide +kernel
theorem dL_goes_136 : decode cL_goes 136 = .ok (.istore_n 3, 1) := by decide +kernel
theorem dL_goes_137 : decode cL_goes 137 = .ok (.goto 472, 3) := by decide +kernel
theorem dL_goes_140 : decode cL_goes 140 = .ok (.iload_n 3, 1) := by decide +kernel
theorem dL_goes_141 : decode cL_goes 141 = .ok (.ifCond .eq 89, 3) := by decide +kernel
theorem dL_goes_144 : decode cL_goes 144 = .ok (.iload 10, 2) := by decide +kernel
theorem dL_goes_146 : decode cL_goes 146 = .ok (.iload 8, 2) := by decide +kernel
theorem dL_goes_148 : decode cL_goes 148 = .ok (.if_icmp .ne 82, 3) := by decide +kernel
theorem dL_goes_151 : decode cL_goes 151 = .ok (.aload_n 0, 1) := by decide +kernel
theorem dL_goes_152 : decode cL_goes 152 = .ok (.invokevirtual 240, 3) := by decide +kernel
theorem dL_goes_155 : decode cL_goes 155 = .ok (.iload 7, 2) := by decide +kernel
theorem dL_goes_157 : decode cL_goes 157 = .ok (.iload 8, 2) := by decide +kernel
theorem dL_goes_159 : decode cL_goes 159 = .ok (.iadd, 1) := by decide +kernel
theorem dL_goes_160 : decode cL_goes 160 = .ok (.if_icmp .ne 70, 3) := by decide +kernel
theorem dL_goes_163 : decode cL_goes 163 = .ok (.aload_n 0, 1) := by decide +kernel
theorem dL_goes_164 : decode cL_goes 164 = .ok (.bipush 20, 2) := by decide +kernel
theorem dL_goes_166 : decode cL_goes 166 = .ok (.iload 4, 2) := by decide +kernel
theorem dL_goes_168 : decode cL_goes 168 = .ok (.invokestatic 171, 3) := by decide +kernel
theorem dL_goes_171 : decode cL_goes 171 = .ok (.ifCond .ne 59, 3) := by decide +kernel
theorem dL_goes_174 : decode cL_goes 174 = .ok (.aload_n 0, 1) := by decide +kernel
theorem dL_goes_175 : decode cL_goes 175 = .ok (.invokevirtual 263, 3) := by decide +kernel
theorem dL_goes_178 : decode cL_goes 178 = .ok (.iload 6, 2) := by decide +kernel
theorem dL_goes_180 : decode cL_goes 180 = .ok (.iconst 1, 1) := by decide +kernel
theorem dL_goes_181 : decode cL_goes 181 = .ok (.isub, 1) := by decide +kernel
theorem dL_goes_182 : decode cL_goes 182 = .ok (.if_icmp .ne 48, 3) := by decide +kernel
theorem dL_goes_185 : decode cL_goes 185 = .ok (.iload 9, 2) := by decide +kernel
theorem dL_goes_187 : decode cL_goes 187 = .ok (.ifCond .lt 15, 3) := by decide +kernel
theorem dL_goes_190 : decode cL_goes 190 = .ok (.aload_n 0, 1) := by decide +kernel
theorem dL_goes_191 : decode cL_goes 191 = .ok (.bipush 26, 2) := by decide +kernel
theorem dL_goes_193 : decode cL_goes 193 = .ok (.iload 9, 2) := by decide +kernel
theorem dL_goes_195 : decode cL_goes 195 = .ok (.invokestatic 171, 3) := by decide +kernel
theorem dL_goes_198 : decode cL_goes 198 = .ok (.iconst 1, 1) := by decide +kernel
theorem dL_goes_199 : decode cL_goes 199 = .ok (.if_icmp .ne 31, 3) := by decide +kernel
theorem dL_goes_202 : decode cL_goes 202 = .ok (.aload_n 0, 1) := by decide +kernel
theorem dL_goes_203 : decode cL_goes 203 = .ok (.bipush 29, 2) := by decide +kernel
theorem dL_goes_205 : decode cL_goes 205 = .ok (.iload 4, 2) := by decide +kernel
theorem dL_goes_207 : decode cL_goes 207 = .ok (.invokestatic 171, 3) := by decide +kernel
theorem dL_goes_210 : decode cL_goes 210 = .ok (.bipush (-101), 2) := by decide +kernel
theorem dL_goes_212 : decode cL_goes 212 = .ok (.if_icmp .ne 18, 3) := by decide +kernel
theorem dL_goes_215 : decode cL_goes 215 = .ok (.aload_n 0, 1) := by decide +kernel
theorem dL_goes_216 : decode cL_goes 216 = .ok (.bipush 32, 2) := by decide +kernel
theorem dL_goes_218 : decode cL_goes 218 = .ok (.iload 5, 2) := by decide +kernel
theorem dL_goes_220 : decode cL_goes 220 = .ok (.invokestatic 171, 3) := by decide +kernel
theorem dL_goes_223 : decode cL_goes 223 = .ok (.ifCond .ne 7, 3) := by decide +kernel
theorem dL_goes_226 : decode cL_goes 226 = .ok (.iconst 1, 1) := by decide +kernel
theorem dL_goes_227 : decode cL_goes 227 = .ok (.goto 4, 3) := by decide +kernel
theorem dL_goes_230 : decode cL_goes 230 = .ok (.iconst 0, 1) := by decide +kernel
theorem dL_goes_231 : decode cL_goes 231 = .ok (.istore_n 3, 1) := by decide +kernel
theorem dL_goes_232 : decode cL_goes 232 = .ok (.goto 304, 3) := by decide +kernel
theorem dL_goes_235 : decode cL_goes 235 = .ok (.aload_n 0, 1) := by decide +kernel
theorem dL_goes_236 : decode cL_goes 236 = .ok (.bipush 39, 2) := by decide +kernel
theorem dL_goes_238 : decode cL_goes 238 = .ok (.iload 4, 2) := by decide +kernel
theorem dL_goes_240 : decode cL_goes 240 = .ok (.invokestatic 171, 3) := by decide +kernel
theorem dL_goes_243 : decode cL_goes 243 = .ok (.istore 8, 2) := by decide +kernel
theorem dL_goes_245 : decode cL_goes 245 = .ok (.bipush (-101), 2) := by decide +kernel
theorem dL_goes_247 : decode cL_goes 247 = .ok (.istore 9, 2) := by decide +kernel
theorem dL_goes_249 : decode cL_goes 249 = .ok (.aload_n 0, 1) := by decide +kernel
theorem dL_goes_250 : decode cL_goes 250 = .ok (.invokevirtual 246, 3) := by decide +kernel
theorem dL_goes_253 : decode cL_goes 253 = .ok (.iconst 1, 1) := by decide +kernel
theorem dL_goes_254 : decode cL_goes 254 = .ok (.isub, 1) := by decide +kernel
theorem dL_goes_255 : decode cL_goes 255 = .ok (.istore 10, 2) := by decide +kernel
theorem dL_goes_257 : decode cL_goes 257 = .ok (.iload 10, 2) := by decide +kernel
theorem dL_goes_259 : decode cL_goes 259 = .ok (.ifCond .lt 113, 3) := by decide +kernel
theorem dL_goes_262 : decode cL_goes 262 = .ok (.aload_n 0, 1) := by decide +kernel
theorem dL_goes_263 : decode cL_goes 263 = .ok (.invokevirtual 221, 3) := by decide +kernel
theorem dL_goes_266 : decode cL_goes 266 = .ok (.ifCond .le 106, 3) := by decide +kernel
theorem dL_goes_269 : decode cL_goes 269 = .ok (.aload_n 0, 1) := by decide +kernel
theorem dL_goes_270 : decode cL_goes 270 = .ok (.bipush 27, 2) := by decide +kernel
theorem dL_goes_272 : decode cL_goes 272 = .ok (.iload 10, 2) := by decide +kernel
theorem dL_goes_274 : decode cL_goes 274 = .ok (.invokestatic 171, 3) := by decide +kernel
theorem dL_goes_277 : decode cL_goes 277 = .ok (.ifCond .ne 6, 3) := by decide +kernel
theorem dL_goes_280 : decode cL_goes 280 = .ok (.goto 86, 3) := by decide +kernel
theorem dL_goes_283 : decode cL_goes 283 = .ok (.aload_n 0, 1) := by decide +kernel
theorem dL_goes_284 : decode cL_goes 284 = .ok (.bipush 24, 2) := by decide +kernel
theorem dL_goes_286 : decode cL_goes 286 = .ok (.iload 10, 2) := by decide +kernel
theorem dL_goes_288 : decode cL_goes 288 = .ok (.invokestatic 171, 3) := by decide +kernel
theorem dL_goes_291 : decode cL_goes 291 = .ok (.iload 4, 2) := by decide +kernel
theorem dL_goes_293 : decode cL_goes 293 = .ok (.if_icmp .ne 7, 3) := by decide +kernel
theorem dL_goes_296 : decode cL_goes 296 = .ok (.iconst 1, 1) := by decide +kernel
theorem dL_goes_297 : decode cL_goes 297 = .ok (.goto 4, 3) := by decide +kernel
theorem dL_goes_300 : decode cL_goes 300 = .ok (.iconst 0, 1) := by decide +kernel
theorem dL_goes_301 : decode cL_goes 301 = .ok (.istore 11, 2) := by decide +kernel
theorem dL_goes_303 : decode cL_goes 303 = .ok (.iload 9, 2) := by decide +kernel
theorem dL_goes_305 : decode cL_goes 305 = .ok (.ifCond .lt 20, 3) := by decide +kernel
theorem dL_goes_308 : decode cL_goes 308 = .ok (.aload_n 0, 1) := by decide +kernel
theorem dL_goes_309 : decode cL_goes 309 = .ok (.bipush 24, 2) := by decide +kernel
theorem dL_goes_311 : decode cL_goes 311 = .ok (.iload 9, 2) := by decide +kernel
theorem dL_goes_313 : decode cL_goes 313 = .ok (.invokestatic 171, 3) := by decide +kernel
theorem dL_goes_316 : decode cL_goes 316 = .ok (.iload 4, 2) := by decide +kernel
theorem dL_goes_318 : decode cL_goes 318 = .ok (.if_icmp .ne 7, 3) := by decide +kernel
theorem dL_goes_321 : decode cL_goes 321 = .ok (.iconst 1, 1) := by decide +kernel
theorem dL_goes_322 : decode cL_goes 322 = .ok (.goto 4, 3) := by decide +kernel
theorem dL_goes_325 : decode cL_goes 325 = .ok (.iconst 0, 1) := by decide +kernel
theorem dL_goes_326 : decode cL_goes 326 = .ok (.istore 12, 2) := by decide +kernel
theorem dL_goes_328 : decode cL_goes 328 = .ok (.iload 9, 2) := by decide +kernel
theorem dL_goes_330 : decode cL_goes 330 = .ok (.ifCond .lt 32, 3) := by decide +kernel
theorem dL_goes_333 : decode cL_goes 333 = .ok (.iload 11, 2) := by decide +kernel
theorem dL_goes_335 : decode cL_goes 335 = .ok (.ifCond .ne 27, 3) := by decide +kernel
theorem dL_goes_338 : decode cL_goes 338 = .ok (.iload 12, 2) := by decide +kernel
theorem dL_goes_340 : decode cL_goes 340 = .ok (.ifCond .ne 26, 3) := by decide +kernel
theorem dL_goes_343 : decode cL_goes 343 = .ok (.aload_n 0, 1) := by decide +kernel
theorem dL_goes_344 : decode cL_goes 344 = .ok (.bipush 25, 2) := by decide +kernel
theorem dL_goes_346 : decode cL_goes 346 = .ok (.iload 10, 2) := by decide +kernel
theorem dL_goes_348 : decode cL_goes 348 = .ok (.invokestatic 171, 3) := by decide +kernel
theorem dL_goes_351 : decode cL_goes 351 = .ok (.aload_n 0, 1) := by decide +kernel
theorem dL_goes_352 : decode cL_goes 352 = .ok (.bipush 25, 2) := by decide +kernel
theorem dL_goes_354 : decode cL_goes 354 = .ok (.iload 9, 2) := by decide +kernel
theorem dL_goes_356 : decode cL_goes 356 = .ok (.invokestatic 171, 3) := by decide +kernel
theorem dL_goes_359 : decode cL_goes 359 = .ok (.if_icmp .gt 7, 3) := by decide +kernel
theorem dL_goes_362 : decode cL_goes 362 = .ok (.iload 10, 2) := by decide +kernel
theorem dL_goes_364 : decode cL_goes 364 = .ok (.istore 9, 2) := by decide +kernel
theorem dL_goes_366 : decode cL_goes 366 = .ok (.iinc 10 (-1), 3) := by decide +kernel
theorem dL_goes_369 : decode cL_goes 369 = .ok (.goto (-112), 3) := by decide +kernel
theorem dL_goes_372 : decode cL_goes 372 = .ok (.iload 8, 2) := by decide +kernel
theorem dL_goes_374 : decode cL_goes 374 = .ok (.iload 9, 2) := by decide +kernel
theorem dL_goes_376 : decode cL_goes 376 = .ok (.if_icmp .ne 31, 3) := by decide +kernel
theorem dL_goes_379 : decode cL_goes 379 = .ok (.aload_n 0, 1) := by decide +kernel
theorem dL_goes_380 : decode cL_goes 380 = .ok (.iconst 3, 1) := by decide +kernel
theorem dL_goes_381 : decode cL_goes 381 = .ok (.iload 4, 2) := by decide +kernel
theorem dL_goes_383 : decode cL_goes 383 = .ok (.invokestatic 171, 3) := by decide +kernel
theorem dL_goes_386 : decode cL_goes 386 = .ok (.bipush (-102), 2) := by decide +kernel
theorem dL_goes_388 : decode cL_goes 388 = .ok (.if_icmp .ne 19, 3) := by decide +kernel
theorem dL_goes_391 : decode cL_goes 391 = .ok (.aload_n 0, 1) := by decide +kernel
theorem dL_goes_392 : decode cL_goes 392 = .ok (.iconst 5, 1) := by decide +kernel
theorem dL_goes_393 : decode cL_goes 393 = .ok (.iload 4, 2) := by decide +kernel
theorem dL_goes_395 : decode cL_goes 395 = .ok (.invokestatic 171, 3) := by decide +kernel
theorem dL_goes_398 : decode cL_goes 398 = .ok (.bipush (-102), 2) := by decide +kernel
theorem dL_goes_400 : decode cL_goes 400 = .ok (.if_icmp .ne 7, 3) := by decide +kernel
theorem dL_goes_403 : decode cL_goes 403 = .ok (.iconst 1, 1) := by decide +kernel
theorem dL_goes_404 : decode cL_goes 404 = .ok (.goto 4, 3) := by decide +kernel
theorem dL_goes_407 : decode cL_goes 407 = .ok (.iconst 0, 1) := by decide +kernel
theorem dL_goes_408 : decode cL_goes 408 = .ok (.istore_n 3, 1) := by decide +kernel
theorem dL_goes_409 : decode cL_goes 409 = .ok (.aload_n 0, 1) := by decide +kernel
theorem dL_goes_410 : decode cL_goes 410 = .ok (.iconst 2, 1) := by decide +kernel
theorem dL_goes_411 : decode cL_goes 411 = .ok (.iload 4, 2) := by decide +kernel
theorem dL_goes_413 : decode cL_goes 413 = .ok (.invokestatic 171, 3) := by decide +kernel
theorem dL_goes_416 : decode cL_goes 416 = .ok (.istore 10, 2) := by decide +kernel
theorem dL_goes_418 : decode cL_goes 418 = .ok (.iload 5, 2) := by decide +kernel
theorem dL_goes_420 : decode cL_goes 420 = .ok (.bipush 60, 2) := by decide +kernel
theorem dL_goes_422 : decode cL_goes 422 = .ok (.if_icmp .ne 23, 3) := by decide +kernel
theorem dL_goes_425 : decode cL_goes 425 = .ok (.iload_n 3, 1) := by decide +kernel
theorem dL_goes_426 : decode cL_goes 426 = .ok (.ifCond .eq 14, 3) := by decide +kernel
theorem dL_goes_429 : decode cL_goes 429 = .ok (.iload 10, 2) := by decide +kernel
theorem dL_goes_431 : decode cL_goes 431 = .ok (.bipush (-102), 2) := by decide +kernel
theorem dL_goes_433 : decode cL_goes 433 = .ok (.if_icmp .ne 7, 3) := by decide +kernel
theorem dL_goes_436 : decode cL_goes 436 = .ok (.iconst 1, 1) := by decide +kernel
theorem dL_goes_437 : decode cL_goes 437 = .ok (.goto 4, 3) := by decide +kernel
theorem dL_goes_440 : decode cL_goes 440 = .ok (.iconst 0, 1) := by decide +kernel
theorem dL_goes_441 : decode cL_goes 441 = .ok (.istore_n 3, 1) := by decide +kernel
theorem dL_goes_442 : decode cL_goes 442 = .ok (.goto 167, 3) := by decide +kernel
theorem dL_goes_445 : decode cL_goes 445 = .ok (.iload_n 3, 1) := by decide +kernel
theorem dL_goes_446 : decode cL_goes 446 = .ok (.ifCond .eq 88, 3) := by decide +kernel
theorem dL_goes_449 : decode cL_goes 449 = .ok (.iload 10, 2) := by decide +kernel
theorem dL_goes_451 : decode cL_goes 451 = .ok (.iload 6, 2) := by decide +kernel
theorem dL_goes_453 : decode cL_goes 453 = .ok (.iconst 1, 1) := by decide +kernel
theorem dL_goes_454 : decode cL_goes 454 = .ok (.iadd, 1) := by decide +kernel
theorem dL_goes_455 : decode cL_goes 455 = .ok (.if_icmp .ne 79, 3) := by decide +kernel
theorem dL_goes_458 : decode cL_goes 458 = .ok (.aload_n 0, 1) := by decide +kernel
theorem dL_goes_459 : decode cL_goes 459 = .ok (.bipush 20, 2) := by decide +kernel
theorem dL_goes_461 : decode cL_goes 461 = .ok (.iload 4, 2) := by decide +kernel
theorem dL_goes_463 : decode cL_goes 463 = .ok (.invokestatic 171, 3) := by decide +kernel
theorem dL_goes_466 : decode cL_goes 466 = .ok (.iconst 1, 1) := by decide +kernel
theorem dL_goes_467 : decode cL_goes 467 = .ok (.if_icmp .ne 67, 3) := by decide +kernel
theorem dL_goes_470 : decode cL_goes 470 = .ok (.aload_n 0, 1) := by decide +kernel
theorem dL_goes_471 : decode cL_goes 471 = .ok (.bipush 21, 2) := by decide +kernel
theorem dL_goes_473 : decode cL_goes 473 = .ok (.iload 4, 2) := by decide +kernel
theorem dL_goes_475 : decode cL_goes 475 = .ok (.invokestatic 171, 3) := by decide +kernel
theorem dL_goes_478 : decode cL_goes 478 = .ok (.aload_n 0, 1) := by decide +kernel
theorem dL_goes_479 : decode cL_goes 479 = .ok (.invokevirtual 218, 3) := by decide +kernel
theorem dL_goes_482 : decode cL_goes 482 = .ok (.if_icmp .ne 52, 3) := by decide +kernel
theorem dL_goes_485 : decode cL_goes 485 = .ok (.aload_n 0, 1) := by decide +kernel
theorem dL_goes_486 : decode cL_goes 486 = .ok (.bipush 29, 2) := by decide +kernel
theorem dL_goes_488 : decode cL_goes 488 = .ok (.iload 4, 2) := by decide +kernel
theorem dL_goes_490 : decode cL_goes 490 = .ok (.invokestatic 171, 3) := by decide +kernel
theorem dL_goes_493 : decode cL_goes 493 = .ok (.iload 8, 2) := by decide +kernel
theorem dL_goes_495 : decode cL_goes 495 = .ok (.if_icmp .ne 39, 3) := by decide +kernel
theorem dL_goes_498 : decode cL_goes 498 = .ok (.aload_n 0, 1) := by decide +kernel
theorem dL_goes_499 : decode cL_goes 499 = .ok (.bipush 22, 2) := by decide +kernel
theorem dL_goes_501 : decode cL_goes 501 = .ok (.iload 4, 2) := by decide +kernel
theorem dL_goes_503 : decode cL_goes 503 = .ok (.invokestatic 171, 3) := by decide +kernel
theorem dL_goes_506 : decode cL_goes 506 = .ok (.ifCond .ne 28, 3) := by decide +kernel
theorem dL_goes_509 : decode cL_goes 509 = .ok (.aload_n 0, 1) := by decide +kernel
theorem dL_goes_510 : decode cL_goes 510 = .ok (.invokevirtual 240, 3) := by decide +kernel
theorem dL_goes_513 : decode cL_goes 513 = .ok (.iload 7, 2) := by decide +kernel
theorem dL_goes_515 : decode cL_goes 515 = .ok (.if_icmp .ne 19, 3) := by decide +kernel
theorem dL_goes_518 : decode cL_goes 518 = .ok (.aload_n 0, 1) := by decide +kernel
theorem dL_goes_519 : decode cL_goes 519 = .ok (.bipush 32, 2) := by decide +kernel
theorem dL_goes_521 : decode cL_goes 521 = .ok (.iload 5, 2) := by decide +kernel
theorem dL_goes_523 : decode cL_goes 523 = .ok (.invokestatic 171, 3) := by decide +kernel
theorem dL_goes_526 : decode cL_goes 526 = .ok (.iconst 1, 1) := by decide +kernel
theorem dL_goes_527 : decode cL_goes 527 = .ok (.if_icmp .ne 7, 3) := by decide +kernel
theorem dL_goes_530 : decode cL_goes 530 = .ok (.iconst 1, 1) := by decide +kernel
theorem dL_goes_531 : decode cL_goes 531 = .ok (.goto 4, 3) := by decide +kernel
theorem dL_goes_534 : decode cL_goes 534 = .ok (.iconst 0, 1) := by decide +kernel
theorem dL_goes_535 : decode cL_goes 535 = .ok (.istore_n 3, 1) := by decide +kernel
theorem dL_goes_536 : decode cL_goes 536 = .ok (.iload_n 3, 1) := by decide +kernel
theorem dL_goes_537 : decode cL_goes 537 = .ok (.ifCond .eq 70, 3) := by decide +kernel
theorem dL_goes_540 : decode cL_goes 540 = .ok (.aload_n 0, 1) := by decide +kernel
theorem dL_goes_541 : decode cL_goes 541 = .ok (.invokevirtual 249, 3) := by decide +kernel
theorem dL_goes_544 : decode cL_goes 544 = .ok (.iload 5, 2) := by decide +kernel
theorem dL_goes_546 : decode cL_goes 546 = .ok (.iconst 1, 1) := by decide +kernel
theorem dL_goes_547 : decode cL_goes 547 = .ok (.iadd, 1) := by decide +kernel
theorem dL_goes_548 : decode cL_goes 548 = .ok (.if_icmp .ne 59, 3) := by decide +kernel
theorem dL_goes_551 : decode cL_goes 551 = .ok (.aload_n 0, 1) := by decide +kernel
theorem dL_goes_552 : decode cL_goes 552 = .ok (.bipush 30, 2) := by decide +kernel
theorem dL_goes_554 : decode cL_goes 554 = .ok (.iload 5, 2) := by decide +kernel
theorem dL_goes_556 : decode cL_goes 556 = .ok (.invokestatic 171, 3) := by decide +kernel
theorem dL_goes_559 : decode cL_goes 559 = .ok (.aload_n 0, 1) := by decide +kernel
theorem dL_goes_560 : decode cL_goes 560 = .ok (.invokevirtual 218, 3) := by decide +kernel
theorem dL_goes_563 : decode cL_goes 563 = .ok (.if_icmp .ne 44, 3) := by decide +kernel
theorem dL_goes_566 : decode cL_goes 566 = .ok (.aload_n 0, 1) := by decide +kernel
theorem dL_goes_567 : decode cL_goes 567 = .ok (.bipush 31, 2) := by decide +kernel
theorem dL_goes_569 : decode cL_goes 569 = .ok (.iload 5, 2) := by decide +kernel
theorem dL_goes_571 : decode cL_goes 571 = .ok (.invokestatic 171, 3) := by decide +kernel
theorem dL_goes_574 : decode cL_goes 574 = .ok (.iload 4, 2) := by decide +kernel
theorem dL_goes_576 : decode cL_goes 576 = .ok (.if_icmp .ne 31, 3) := by decide +kernel
theorem dL_goes_579 : decode cL_goes 579 = .ok (.aload_n 0, 1) := by decide +kernel
theorem dL_goes_580 : decode cL_goes 580 = .ok (.invokevirtual 255, 3) := by decide +kernel
theorem dL_goes_583 : decode cL_goes 583 = .ok (.ifCond .ne 24, 3) := by decide +kernel
theorem dL_goes_586 : decode cL_goes 586 = .ok (.aload_n 0, 1) := by decide +kernel
theorem dL_goes_587 : decode cL_goes 587 = .ok (.invokestatic 288, 3) := by decide +kernel
theorem dL_goes_590 : decode cL_goes 590 = .ok (.ifCond .eq 17, 3) := by decide +kernel
theorem dL_goes_593 : decode cL_goes 593 = .ok (.aload_n 0, 1) := by decide +kernel
theorem dL_goes_594 : decode cL_goes 594 = .ok (.bipush 8, 2) := by decide +kernel
theorem dL_goes_596 : decode cL_goes 596 = .ok (.iconst 0, 1) := by decide +kernel
theorem dL_goes_597 : decode cL_goes 597 = .ok (.invokestatic 171, 3) := by decide +kernel
theorem dL_goes_600 : decode cL_goes 600 = .ok (.ifCond .lt 7, 3) := by decide +kernel
theorem dL_goes_603 : decode cL_goes 603 = .ok (.iconst 1, 1) := by decide +kernel
theorem dL_goes_604 : decode cL_goes 604 = .ok (.goto 4, 3) := by decide +kernel
theorem dL_goes_607 : decode cL_goes 607 = .ok (.iconst 0, 1) := by decide +kernel
theorem dL_goes_608 : decode cL_goes 608 = .ok (.istore_n 3, 1) := by decide +kernel
theorem dL_goes_609 : decode cL_goes 609 = .ok (.iinc 4 1, 3) := by decide +kernel
theorem dL_goes_612 : decode cL_goes 612 = .ok (.goto (-602), 3) := by decide +kernel
theorem dL_goes_615 : decode cL_goes 615 = .ok (.iload_n 3, 1) := by decide +kernel
theorem dL_goes_616 : decode cL_goes 616 = .ok (.ifCond .eq 16, 3) := by decide +kernel
theorem dL_goes_619 : decode cL_goes 619 = .ok (.aload_n 0, 1) := by decide +kernel
theorem dL_goes_620 : decode cL_goes 620 = .ok (.invokestatic 284, 3) := by decide +kernel
theorem dL_goes_623 : decode cL_goes 623 = .ok (.lload_n 1, 1) := by decide +kernel
theorem dL_goes_624 : decode cL_goes 624 = .ok (.lcmp, 1) := by decide +kernel
theorem dL_goes_625 : decode cL_goes 625 = .ok (.ifCond .ne 7, 3) := by decide +kernel
theorem dL_goes_628 : decode cL_goes 628 = .ok (.iconst 1, 1) := by decide +kernel
theorem dL_goes_629 : decode cL_goes 629 = .ok (.goto 4, 3) := by decide +kernel
theorem dL_goes_632 : decode cL_goes 632 = .ok (.iconst 0, 1) := by decide +kernel
theorem dL_goes_633 : decode cL_goes 633 = .ok (.ireturn, 1) := by decide +kernel
theorem dL_passes_0 : decode cL_passes 0 = .ok (.aload_n 0, 1) := by decide +kernel
theorem dL_passes_1 : decode cL_passes 1 = .ok (.invokestatic 284, 3) := by decide +kernel
theorem dL_passes_4 : decode cL_passes 4 = .ok (.lstore_n 2, 1) := by decide +kernel
theorem dL_passes_5 : decode cL_passes 5 = .ok (.aload_n 0, 1) := by decide +kernel
theorem dL_passes_6 : decode cL_passes 6 = .ok (.invokevirtual 218, 3) := by decide +kernel
theorem dL_passes_9 : decode cL_passes 9 = .ok (.istore 4, 2) := by decide +kernel
theorem dL_passes_11 : decode cL_passes 11 = .ok (.iconst 1, 1) := by decide +kernel
theorem dL_passes_12 : decode cL_passes 12 = .ok (.iload_n 1, 1) := by decide +kernel
theorem dL_passes_13 : decode cL_passes 13 = .ok (.sipush 255, 3) := by decide +kernel
theorem dL_passes_16 : decode cL_passes 16 = .ok (.iand, 1) := by decide +kernel
theorem dL_passes_17 : decode cL_passes 17 = .ok (.bipush 100, 2) := by decide +kernel
theorem dL_passes_19 : decode cL_passes 19 = .ok (.irem, 1) := by decide +kernel
theorem dL_passes_20 : decode cL_passes 20 = .ok (.iadd, 1) := by decide +kernel
theorem dL_passes_21 : decode cL_passes 21 = .ok (.istore 5, 2) := by decide +kernel
theorem dL_passes_23 : decode cL_passes 23 = .ok (.aload_n 0, 1) := by decide +kernel
theorem dL_passes_24 : decode cL_passes 24 = .ok (.bipush 41, 2) := by decide +kernel
theorem dL_passes_26 : decode cL_passes 26 = .ok (.iload 5, 2) := by decide +kernel
theorem dL_passes_28 : decode cL_passes 28 = .ok (.invokestatic 171, 3) := by decide +kernel
theorem dL_passes_31 : decode cL_passes 31 = .ok (.istore 6, 2) := by decide +kernel
theorem dL_passes_33 : decode cL_passes 33 = .ok (.aload_n 0, 1) := by decide +kernel
theorem dL_passes_34 : decode cL_passes 34 = .ok (.invokevirtual 234, 3) := by decide +kernel
theorem dL_passes_37 : decode cL_passes 37 = .ok (.istore 7, 2) := by decide +kernel
theorem dL_passes_39 : decode cL_passes 39 = .ok (.iload 6, 2) := by decide +kernel
theorem dL_passes_41 : decode cL_passes 41 = .ok (.iload 7, 2) := by decide +kernel
theorem dL_passes_43 : decode cL_passes 43 = .ok (.if_icmp .lt 57, 3) := by decide +kernel
theorem dL_passes_46 : decode cL_passes 46 = .ok (.aload_n 0, 1) := by decide +kernel
theorem dL_passes_47 : decode cL_passes 47 = .ok (.bipush 41, 2) := by decide +kernel
theorem dL_passes_49 : decode cL_passes 49 = .ok (.iconst 0, 1) := by decide +kernel
theorem dL_passes_50 : decode cL_passes 50 = .ok (.invokestatic 171, 3) := by decide +kernel
theorem dL_passes_53 : decode cL_passes 53 = .ok (.iload 7, 2) := by decide +kernel
theorem dL_passes_55 : decode cL_passes 55 = .ok (.if_icmp .ne 45, 3) := by decide +kernel
theorem dL_passes_58 : decode cL_passes 58 = .ok (.aload_n 0, 1) := by decide +kernel
theorem dL_passes_59 : decode cL_passes 59 = .ok (.bipush 41, 2) := by decide +kernel
theorem dL_passes_61 : decode cL_passes 61 = .ok (.sipush 241, 3) := by decide +kernel
theorem dL_passes_64 : decode cL_passes 64 = .ok (.invokestatic 171, 3) := by decide +kernel
theorem dL_passes_67 : decode cL_passes 67 = .ok (.bipush (-103), 2) := by decide +kernel
theorem dL_passes_69 : decode cL_passes 69 = .ok (.if_icmp .ne 31, 3) := by decide +kernel
theorem dL_passes_72 : decode cL_passes 72 = .ok (.aload_n 0, 1) := by decide +kernel
theorem dL_passes_73 : decode cL_passes 73 = .ok (.iconst 4, 1) := by decide +kernel
theorem dL_passes_74 : decode cL_passes 74 = .ok (.iconst 0, 1) := by decide +kernel
theorem dL_passes_75 : decode cL_passes 75 = .ok (.invokestatic 171, 3) := by decide +kernel
theorem dL_passes_78 : decode cL_passes 78 = .ok (.bipush (-103), 2) := by decide +kernel
theorem dL_passes_80 : decode cL_passes 80 = .ok (.if_icmp .ne 20, 3) := by decide +kernel
theorem dL_passes_83 : decode cL_passes 83 = .ok (.aload_n 0, 1) := by decide +kernel
theorem dL_passes_84 : decode cL_passes 84 = .ok (.iconst 4, 1) := by decide +kernel
theorem dL_passes_85 : decode cL_passes 85 = .ok (.sipush 241, 3) := by decide +kernel
theorem dL_passes_88 : decode cL_passes 88 = .ok (.invokestatic 171, 3) := by decide +kernel
theorem dL_passes_91 : decode cL_passes 91 = .ok (.bipush (-103), 2) := by decide +kernel
theorem dL_passes_93 : decode cL_passes 93 = .ok (.if_icmp .ne 7, 3) := by decide +kernel
theorem dL_passes_96 : decode cL_passes 96 = .ok (.iconst 1, 1) := by decide +kernel
theorem dL_passes_97 : decode cL_passes 97 = .ok (.goto 4, 3) := by decide +kernel
theorem dL_passes_100 : decode cL_passes 100 = .ok (.iconst 0, 1) := by decide +kernel
theorem dL_passes_101 : decode cL_passes 101 = .ok (.istore 8, 2) := by decide +kernel
theorem dL_passes_103 : decode cL_passes 103 = .ok (.aload_n 0, 1) := by decide +kernel
theorem dL_passes_104 : decode cL_passes 104 = .ok (.iconst 4, 1) := by decide +kernel
theorem dL_passes_105 : decode cL_passes 105 = .ok (.iload 5, 2) := by decide +kernel
theorem dL_passes_107 : decode cL_passes 107 = .ok (.invokestatic 171, 3) := by decide +kernel
theorem dL_passes_110 : decode cL_passes 110 = .ok (.istore 9, 2) := by decide +kernel
theorem dL_passes_112 : decode cL_passes 112 = .ok (.iload 4, 2) := by decide +kernel
theorem dL_passes_114 : decode cL_passes 114 = .ok (.iload 5, 2) := by decide +kernel
theorem dL_passes_116 : decode cL_passes 116 = .ok (.iadd, 1) := by decide +kernel
theorem dL_passes_117 : decode cL_passes 117 = .ok (.sipush 720, 3) := by decide +kernel
theorem dL_passes_120 : decode cL_passes 120 = .ok (.if_icmp .le 30, 3) := by decide +kernel
theorem dL_passes_123 : decode cL_passes 123 = .ok (.iload 8, 2) := by decide +kernel
theorem dL_passes_125 : decode cL_passes 125 = .ok (.ifCond .eq 23, 3) := by decide +kernel
theorem dL_passes_128 : decode cL_passes 128 = .ok (.iload 9, 2) := by decide +kernel
theorem dL_passes_130 : decode cL_passes 130 = .ok (.bipush (-102), 2) := by decide +kernel
theorem dL_passes_132 : decode cL_passes 132 = .ok (.if_icmp .ne 16, 3) := by decide +kernel
theorem dL_passes_135 : decode cL_passes 135 = .ok (.aload_n 0, 1) := by decide +kernel
theorem dL_passes_136 : decode cL_passes 136 = .ok (.invokestatic 284, 3) := by decide +kernel
theorem dL_passes_139 : decode cL_passes 139 = .ok (.lload_n 2, 1) := by decide +kernel
theorem dL_passes_140 : decode cL_passes 140 = .ok (.lcmp, 1) := by decide +kernel
theorem dL_passes_141 : decode cL_passes 141 = .ok (.ifCond .ne 7, 3) := by decide +kernel
theorem dL_passes_144 : decode cL_passes 144 = .ok (.iconst 1, 1) := by decide +kernel
theorem dL_passes_145 : decode cL_passes 145 = .ok (.goto 4, 3) := by decide +kernel
theorem dL_passes_148 : decode cL_passes 148 = .ok (.iconst 0, 1) := by decide +kernel
theorem dL_passes_149 : decode cL_passes 149 = .ok (.ireturn, 1) := by decide +kernel
theorem dL_passes_150 : decode cL_passes 150 = .ok (.iload 8, 2) := by decide +kernel
theorem dL_passes_152 : decode cL_passes 152 = .ok (.ifCond .eq 55, 3) := by decide +kernel
theorem dL_passes_155 : decode cL_passes 155 = .ok (.iload 9, 2) := by decide +kernel
theorem dL_passes_157 : decode cL_passes 157 = .ok (.iload 6, 2) := by decide +kernel
theorem dL_passes_159 : decode cL_passes 159 = .ok (.iload 7, 2) := by decide +kernel
theorem dL_passes_161 : decode cL_passes 161 = .ok (.isub, 1) := by decide +kernel
theorem dL_passes_162 : decode cL_passes 162 = .ok (.if_icmp .ne 45, 3) := by decide +kernel
theorem dL_passes_165 : decode cL_passes 165 = .ok (.aload_n 0, 1) := by decide +kernel
theorem dL_passes_166 : decode cL_passes 166 = .ok (.invokevirtual 234, 3) := by decide +kernel
theorem dL_passes_169 : decode cL_passes 169 = .ok (.iload 6, 2) := by decide +kernel
theorem dL_passes_171 : decode cL_passes 171 = .ok (.if_icmp .ne 36, 3) := by decide +kernel
theorem dL_passes_174 : decode cL_passes 174 = .ok (.aload_n 0, 1) := by decide +kernel
theorem dL_passes_175 : decode cL_passes 175 = .ok (.invokevirtual 218, 3) := by decide +kernel
theorem dL_passes_178 : decode cL_passes 178 = .ok (.iload 4, 2) := by decide +kernel
theorem dL_passes_180 : decode cL_passes 180 = .ok (.iload 5, 2) := by decide +kernel
theorem dL_passes_182 : decode cL_passes 182 = .ok (.iadd, 1) := by decide +kernel
theorem dL_passes_183 : decode cL_passes 183 = .ok (.if_icmp .ne 24, 3) := by decide +kernel
theorem dL_passes_186 : decode cL_passes 186 = .ok (.aload_n 0, 1) := by decide +kernel
theorem dL_passes_187 : decode cL_passes 187 = .ok (.invokestatic 288, 3) := by decide +kernel
theorem dL_passes_190 : decode cL_passes 190 = .ok (.ifCond .eq 17, 3) := by decide +kernel
theorem dL_passes_193 : decode cL_passes 193 = .ok (.aload_n 0, 1) := by decide +kernel
theorem dL_passes_194 : decode cL_passes 194 = .ok (.bipush 8, 2) := by decide +kernel
theorem dL_passes_196 : decode cL_passes 196 = .ok (.iconst 0, 1) := by decide +kernel
theorem dL_passes_197 : decode cL_passes 197 = .ok (.invokestatic 171, 3) := by decide +kernel
theorem dL_passes_200 : decode cL_passes 200 = .ok (.ifCond .lt 7, 3) := by decide +kernel
theorem dL_passes_203 : decode cL_passes 203 = .ok (.iconst 1, 1) := by decide +kernel
theorem dL_passes_204 : decode cL_passes 204 = .ok (.goto 4, 3) := by decide +kernel
theorem dL_passes_207 : decode cL_passes 207 = .ok (.iconst 0, 1) := by decide +kernel
theorem dL_passes_208 : decode cL_passes 208 = .ok (.istore 8, 2) := by decide +kernel
theorem dL_passes_210 : decode cL_passes 210 = .ok (.aload_n 0, 1) := by decide +kernel
theorem dL_passes_211 : decode cL_passes 211 = .ok (.invokevirtual 243, 3) := by decide +kernel
theorem dL_passes_214 : decode cL_passes 214 = .ok (.istore 10, 2) := by decide +kernel
theorem dL_passes_216 : decode cL_passes 216 = .ok (.aload_n 0, 1) := by decide +kernel
theorem dL_passes_217 : decode cL_passes 217 = .ok (.invokevirtual 229, 3) := by decide +kernel
theorem dL_passes_220 : decode cL_passes 220 = .ok (.istore 11, 2) := by decide +kernel
theorem dL_passes_222 : decode cL_passes 222 = .ok (.aload_n 0, 1) := by decide +kernel
theorem dL_passes_223 : decode cL_passes 223 = .ok (.invokevirtual 237, 3) := by decide +kernel
theorem dL_passes_226 : decode cL_passes 226 = .ok (.istore 12, 2) := by decide +kernel
theorem dL_passes_228 : decode cL_passes 228 = .ok (.bipush 12, 2) := by decide +kernel
theorem dL_passes_230 : decode cL_passes 230 = .ok (.newarray .int, 2) := by decide +kernel
theorem dL_passes_232 : decode cL_passes 232 = .ok (.astore 13, 2) := by decide +kernel
theorem dL_passes_234 : decode cL_passes 234 = .ok (.bipush 10, 2) := by decide +kernel
theorem dL_passes_236 : decode cL_passes 236 = .ok (.newarray .int, 2) := by decide +kernel
theorem dL_passes_238 : decode cL_passes 238 = .ok (.astore 14, 2) := by decide +kernel
theorem dL_passes_240 : decode cL_passes 240 = .ok (.iconst 0, 1) := by decide +kernel
theorem dL_passes_241 : decode cL_passes 241 = .ok (.istore 15, 2) := by decide +kernel
theorem dL_passes_243 : decode cL_passes 243 = .ok (.iload 15, 2) := by decide +kernel
theorem dL_passes_245 : decode cL_passes 245 = .ok (.aload_n 0, 1) := by decide +kernel
theorem dL_passes_246 : decode cL_passes 246 = .ok (.invokevirtual 246, 3) := by decide +kernel
theorem dL_passes_249 : decode cL_passes 249 = .ok (.if_icmp .ge 92, 3) := by decide +kernel
theorem dL_passes_252 : decode cL_passes 252 = .ok (.aload_n 0, 1) := by decide +kernel
theorem dL_passes_253 : decode cL_passes 253 = .ok (.bipush 26, 2) := by decide +kernel
theorem dL_passes_255 : decode cL_passes 255 = .ok (.iload 15, 2) := by decide +kernel
theorem dL_passes_257 : decode cL_passes 257 = .ok (.invokestatic 171, 3) := by decide +kernel
theorem dL_passes_260 : decode cL_passes 260 = .ok (.iconst 1, 1) := by decide +kernel
theorem dL_passes_261 : decode cL_passes 261 = .ok (.if_icmp .ne 7, 3) := by decide +kernel
theorem dL_passes_264 : decode cL_passes 264 = .ok (.iconst 1, 1) := by decide +kernel
theorem dL_passes_265 : decode cL_passes 265 = .ok (.goto 4, 3) := by decide +kernel
theorem dL_passes_268 : decode cL_passes 268 = .ok (.iconst 0, 1) := by decide +kernel
theorem dL_passes_269 : decode cL_passes 269 = .ok (.istore 16, 2) := by decide +kernel
theorem dL_passes_271 : decode cL_passes 271 = .ok (.aload 13, 2) := by decide +kernel
theorem dL_passes_273 : decode cL_passes 273 = .ok (.iload 15, 2) := by decide +kernel
theorem dL_passes_275 : decode cL_passes 275 = .ok (.iload 16, 2) := by decide +kernel
theorem dL_passes_277 : decode cL_passes 277 = .ok (.ifCond .eq 20, 3) := by decide +kernel
theorem dL_passes_280 : decode cL_passes 280 = .ok (.iconst 0, 1) := by decide +kernel
theorem dL_passes_281 : decode cL_passes 281 = .ok (.aload_n 0, 1) := by decide +kernel
theorem dL_passes_282 : decode cL_passes 282 = .ok (.bipush 25, 2) := by decide +kernel
theorem dL_passes_284 : decode cL_passes 284 = .ok (.iload 15, 2) := by decide +kernel
theorem dL_passes_286 : decode cL_passes 286 = .ok (.invokestatic 171, 3) := by decide +kernel
theorem dL_passes_289 : decode cL_passes 289 = .ok (.iconst 1, 1) := by decide +kernel
theorem dL_passes_290 : decode cL_passes 290 = .ok (.isub, 1) := by decide +kernel
theorem dL_passes_291 : decode cL_passes 291 = .ok (.invokestatic 258, 3) := by decide +kernel
theorem dL_passes_294 : decode cL_passes 294 = .ok (.goto 21, 3) := by decide +kernel
theorem dL_passes_297 : decode cL_passes 297 = .ok (.bipush 99, 2) := by decide +kernel
theorem dL_passes_299 : decode cL_passes 299 = .ok (.aload_n 0, 1) := by decide +kernel
theorem dL_passes_300 : decode cL_passes 300 = .ok (.bipush 25, 2) := by decide +kernel
theorem dL_passes_302 : decode cL_passes 302 = .ok (.iload 15, 2) := by decide +kernel
theorem dL_passes_304 : decode cL_passes 304 = .ok (.invokestatic 171, 3) := by decide +kernel
theorem dL_passes_307 : decode cL_passes 307 = .ok (.aload_n 0, 1) := by decide +kernel
theorem dL_passes_308 : decode cL_passes 308 = .ok (.invokevirtual 221, 3) := by decide +kernel
theorem dL_passes_311 : decode cL_passes 311 = .ok (.iadd, 1) := by decide +kernel
theorem dL_passes_312 : decode cL_passes 312 = .ok (.invokestatic 272, 3) := by decide +kernel
theorem dL_passes_315 : decode cL_passes 315 = .ok (.iastore, 1) := by decide +kernel
theorem dL_passes_316 : decode cL_passes 316 = .ok (.iload 16, 2) := by decide +kernel
theorem dL_passes_318 : decode cL_passes 318 = .ok (.ifCond .eq 17, 3) := by decide +kernel
theorem dL_passes_321 : decode cL_passes 321 = .ok (.aload_n 0, 1) := by decide +kernel
theorem dL_passes_322 : decode cL_passes 322 = .ok (.bipush 25, 2) := by decide +kernel
theorem dL_passes_324 : decode cL_passes 324 = .ok (.iload 15, 2) := by decide +kernel
theorem dL_passes_326 : decode cL_passes 326 = .ok (.invokestatic 171, 3) := by decide +kernel
theorem dL_passes_329 : decode cL_passes 329 = .ok (.ifCond .le 6, 3) := by decide +kernel
theorem dL_passes_332 : decode cL_passes 332 = .ok (.iinc 12 1, 3) := by decide +kernel
theorem dL_passes_335 : decode cL_passes 335 = .ok (.iinc 15 1, 3) := by decide +kernel
theorem dL_passes_338 : decode cL_passes 338 = .ok (.goto (-95), 3) := by decide +kernel
theorem dL_passes_341 : decode cL_passes 341 = .ok (.iconst 0, 1) := by decide +kernel
theorem dL_passes_342 : decode cL_passes 342 = .ok (.istore 15, 2) := by decide +kernel
theorem dL_passes_344 : decode cL_passes 344 = .ok (.iload 15, 2) := by decide +kernel
theorem dL_passes_346 : decode cL_passes 346 = .ok (.iload 10, 2) := by decide +kernel
theorem dL_passes_348 : decode cL_passes 348 = .ok (.if_icmp .ge 81, 3) := by decide +kernel
theorem dL_passes_351 : decode cL_passes 351 = .ok (.aload 14, 2) := by decide +kernel
theorem dL_passes_353 : decode cL_passes 353 = .ok (.iload 15, 2) := by decide +kernel
theorem dL_passes_355 : decode cL_passes 355 = .ok (.aload_n 0, 1) := by decide +kernel
theorem dL_passes_356 : decode cL_passes 356 = .ok (.bipush 22, 2) := by decide +kernel
theorem dL_passes_358 : decode cL_passes 358 = .ok (.iload 15, 2) := by decide +kernel
theorem dL_passes_360 : decode cL_passes 360 = .ok (.invokestatic 171, 3) := by decide +kernel
theorem dL_passes_363 : decode cL_passes 363 = .ok (.aload_n 0, 1) := by decide +kernel
theorem dL_passes_364 : decode cL_passes 364 = .ok (.bipush 20, 2) := by decide +kernel
theorem dL_passes_366 : decode cL_passes 366 = .ok (.iload 15, 2) := by decide +kernel
theorem dL_passes_368 : decode cL_passes 368 = .ok (.invokestatic 171, 3) := by decide +kernel
theorem dL_passes_371 : decode cL_passes 371 = .ok (.iconst 1, 1) := by decide +kernel
theorem dL_passes_372 : decode cL_passes 372 = .ok (.if_icmp .ne 23, 3) := by decide +kernel
theorem dL_passes_375 : decode cL_passes 375 = .ok (.aload_n 0, 1) := by decide +kernel
theorem dL_passes_376 : decode cL_passes 376 = .ok (.bipush 29, 2) := by decide +kernel
theorem dL_passes_378 : decode cL_passes 378 = .ok (.iload 15, 2) := by decide +kernel
theorem dL_passes_380 : decode cL_passes 380 = .ok (.invokestatic 171, 3) := by decide +kernel
theorem dL_passes_383 : decode cL_passes 383 = .ok (.bipush (-101), 2) := by decide +kernel
theorem dL_passes_385 : decode cL_passes 385 = .ok (.if_icmp .ne 10, 3) := by decide +kernel
theorem dL_passes_388 : decode cL_passes 388 = .ok (.aload_n 0, 1) := by decide +kernel
theorem dL_passes_389 : decode cL_passes 389 = .ok (.invokevirtual 221, 3) := by decide +kernel
theorem dL_passes_392 : decode cL_passes 392 = .ok (.goto 4, 3) := by decide +kernel
theorem dL_passes_395 : decode cL_passes 395 = .ok (.iconst 0, 1) := by decide +kernel
theorem dL_passes_396 : decode cL_passes 396 = .ok (.iadd, 1) := by decide +kernel
theorem dL_passes_397 : decode cL_passes 397 = .ok (.iastore, 1) := by decide +kernel
theorem dL_passes_398 : decode cL_passes 398 = .ok (.aload_n 0, 1) := by decide +kernel
theorem dL_passes_399 : decode cL_passes 399 = .ok (.bipush 23, 2) := by decide +kernel
theorem dL_passes_401 : decode cL_passes 401 = .ok (.iload 15, 2) := by decide +kernel
theorem dL_passes_403 : decode cL_passes 403 = .ok (.invokestatic 171, 3) := by decide +kernel
theorem dL_passes_406 : decode cL_passes 406 = .ok (.iconst 1, 1) := by decide +kernel
theorem dL_passes_407 : decode cL_passes 407 = .ok (.if_icmp .ne 16, 3) := by decide +kernel
theorem dL_passes_410 : decode cL_passes 410 = .ok (.iload 11, 2) := by decide +kernel
theorem dL_passes_412 : decode cL_passes 412 = .ok (.aload_n 0, 1) := by decide +kernel
theorem dL_passes_413 : decode cL_passes 413 = .ok (.bipush 19, 2) := by decide +kernel
theorem dL_passes_415 : decode cL_passes 415 = .ok (.iload 15, 2) := by decide +kernel
theorem dL_passes_417 : decode cL_passes 417 = .ok (.invokestatic 171, 3) := by decide +kernel
theorem dL_passes_420 : decode cL_passes 420 = .ok (.iadd, 1) := by decide +kernel
theorem dL_passes_421 : decode cL_passes 421 = .ok (.istore 11, 2) := by decide +kernel
theorem dL_passes_423 : decode cL_passes 423 = .ok (.iinc 15 1, 3) := by decide +kernel
theorem dL_passes_426 : decode cL_passes 426 = .ok (.goto (-82), 3) := by decide +kernel
theorem dL_passes_429 : decode cL_passes 429 = .ok (.iload 4, 2) := by decide +kernel
theorem dL_passes_431 : decode cL_passes 431 = .ok (.iconst 1, 1) := by decide +kernel
theorem dL_passes_432 : decode cL_passes 432 = .ok (.iadd, 1) := by decide +kernel
theorem dL_passes_433 : decode cL_passes 433 = .ok (.bipush 60, 2) := by decide +kernel
theorem dL_passes_435 : decode cL_passes 435 = .ok (.irem, 1) := by decide +kernel
theorem dL_passes_436 : decode cL_passes 436 = .ok (.ifCond .ne 7, 3) := by decide +kernel
theorem dL_passes_439 : decode cL_passes 439 = .ok (.iconst 1, 1) := by decide +kernel
theorem dL_passes_440 : decode cL_passes 440 = .ok (.goto 4, 3) := by decide +kernel
theorem dL_passes_443 : decode cL_passes 443 = .ok (.iconst 0, 1) := by decide +kernel
theorem dL_passes_444 : decode cL_passes 444 = .ok (.istore 15, 2) := by decide +kernel
theorem dL_passes_446 : decode cL_passes 446 = .ok (.iload 8, 2) := by decide +kernel
theorem dL_passes_448 : decode cL_passes 448 = .ok (.ifCond .eq 62, 3) := by decide +kernel
theorem dL_passes_451 : decode cL_passes 451 = .ok (.aload_n 0, 1) := by decide +kernel
theorem dL_passes_452 : decode cL_passes 452 = .ok (.iconst 4, 1) := by decide +kernel
theorem dL_passes_453 : decode cL_passes 453 = .ok (.iconst 1, 1) := by decide +kernel
theorem dL_passes_454 : decode cL_passes 454 = .ok (.invokestatic 171, 3) := by decide +kernel
theorem dL_passes_457 : decode cL_passes 457 = .ok (.iload 15, 2) := by decide +kernel
theorem dL_passes_459 : decode cL_passes 459 = .ok (.ifCond .eq 16, 3) := by decide +kernel
theorem dL_passes_462 : decode cL_passes 462 = .ok (.iload 11, 2) := by decide +kernel
theorem dL_passes_464 : decode cL_passes 464 = .ok (.aload_n 0, 1) := by decide +kernel
theorem dL_passes_465 : decode cL_passes 465 = .ok (.invokevirtual 226, 3) := by decide +kernel
theorem dL_passes_468 : decode cL_passes 468 = .ok (.if_icmp .le 7, 3) := by decide +kernel
theorem dL_passes_471 : decode cL_passes 471 = .ok (.iconst 1, 1) := by decide +kernel
theorem dL_passes_472 : decode cL_passes 472 = .ok (.goto 4, 3) := by decide +kernel
theorem dL_passes_475 : decode cL_passes 475 = .ok (.iconst 0, 1) := by decide +kernel
theorem dL_passes_476 : decode cL_passes 476 = .ok (.if_icmp .ne 34, 3) := by decide +kernel
theorem dL_passes_479 : decode cL_passes 479 = .ok (.aload_n 0, 1) := by decide +kernel
theorem dL_passes_480 : decode cL_passes 480 = .ok (.invokevirtual 229, 3) := by decide +kernel
theorem dL_passes_483 : decode cL_passes 483 = .ok (.iload 15, 2) := by decide +kernel
theorem dL_passes_485 : decode cL_passes 485 = .ok (.ifCond .eq 7, 3) := by decide +kernel
theorem dL_passes_488 : decode cL_passes 488 = .ok (.iconst 0, 1) := by decide +kernel
theorem dL_passes_489 : decode cL_passes 489 = .ok (.goto 5, 3) := by decide +kernel
theorem dL_passes_492 : decode cL_passes 492 = .ok (.iload 11, 2) := by decide +kernel
theorem dL_passes_494 : decode cL_passes 494 = .ok (.if_icmp .ne 16, 3) := by decide +kernel
theorem dL_passes_497 : decode cL_passes 497 = .ok (.aload_n 0, 1) := by decide +kernel
theorem dL_passes_498 : decode cL_passes 498 = .ok (.invokevirtual 237, 3) := by decide +kernel
theorem dL_passes_501 : decode cL_passes 501 = .ok (.iload 12, 2) := by decide +kernel
theorem dL_passes_503 : decode cL_passes 503 = .ok (.if_icmp .ne 7, 3) := by decide +kernel
theorem dL_passes_506 : decode cL_passes 506 = .ok (.iconst 1, 1) := by decide +kernel
theorem dL_passes_507 : decode cL_passes 507 = .ok (.goto 4, 3) := by decide +kernel
theorem dL_passes_510 : decode cL_passes 510 = .ok (.iconst 0, 1) := by decide +kernel
theorem dL_passes_511 : decode cL_passes 511 = .ok (.istore 8, 2) := by decide +kernel
theorem dL_passes_513 : decode cL_passes 513 = .ok (.iconst 0, 1) := by decide +kernel
theorem dL_passes_514 : decode cL_passes 514 = .ok (.istore 16, 2) := by decide +kernel
theorem dL_passes_516 : decode cL_passes 516 = .ok (.iload 16, 2) := by decide +kernel
theorem dL_passes_518 : decode cL_passes 518 = .ok (.aload_n 0, 1) := by decide +kernel
theorem dL_passes_519 : decode cL_passes 519 = .ok (.invokevirtual 246, 3) := by decide +kernel
theorem dL_passes_522 : decode cL_passes 522 = .ok (.if_icmp .ge 37, 3) := by decide +kernel
theorem dL_passes_525 : decode cL_passes 525 = .ok (.iload 8, 2) := by decide +kernel
theorem dL_passes_527 : decode cL_passes 527 = .ok (.ifCond .eq 32, 3) := by decide +kernel
theorem dL_passes_530 : decode cL_passes 530 = .ok (.aload_n 0, 1) := by decide +kernel
theorem dL_passes_531 : decode cL_passes 531 = .ok (.bipush 25, 2) := by decide +kernel
theorem dL_passes_533 : decode cL_passes 533 = .ok (.iload 16, 2) := by decide +kernel
theorem dL_passes_535 : decode cL_passes 535 = .ok (.invokestatic 171, 3) := by decide +kernel
theorem dL_passes_538 : decode cL_passes 538 = .ok (.aload 13, 2) := by decide +kernel
theorem dL_passes_540 : decode cL_passes 540 = .ok (.iload 16, 2) := by decide +kernel
theorem dL_passes_542 : decode cL_passes 542 = .ok (.iaload, 1) := by decide +kernel
theorem dL_passes_543 : decode cL_passes 543 = .ok (.if_icmp .ne 7, 3) := by decide +kernel
theorem dL_passes_546 : decode cL_passes 546 = .ok (.iconst 1, 1) := by decide +kernel
theorem dL_passes_547 : decode cL_passes 547 = .ok (.goto 4, 3) := by decide +kernel
theorem dL_passes_550 : decode cL_passes 550 = .ok (.iconst 0, 1) := by decide +kernel
theorem dL_passes_551 : decode cL_passes 551 = .ok (.istore 8, 2) := by decide +kernel
theorem dL_passes_553 : decode cL_passes 553 = .ok (.iinc 16 1, 3) := by decide +kernel
theorem dL_passes_556 : decode cL_passes 556 = .ok (.goto (-40), 3) := by decide +kernel
theorem dL_passes_559 : decode cL_passes 559 = .ok (.iconst 0, 1) := by decide +kernel
theorem dL_passes_560 : decode cL_passes 560 = .ok (.istore 16, 2) := by decide +kernel
theorem dL_passes_562 : decode cL_passes 562 = .ok (.iload 16, 2) := by decide +kernel
theorem dL_passes_564 : decode cL_passes 564 = .ok (.iload 10, 2) := by decide +kernel
theorem dL_passes_566 : decode cL_passes 566 = .ok (.if_icmp .ge 43, 3) := by decide +kernel
theorem dL_passes_569 : decode cL_passes 569 = .ok (.iload 8, 2) := by decide +kernel
theorem dL_passes_571 : decode cL_passes 571 = .ok (.ifCond .eq 38, 3) := by decide +kernel
theorem dL_passes_574 : decode cL_passes 574 = .ok (.aload_n 0, 1) := by decide +kernel
theorem dL_passes_575 : decode cL_passes 575 = .ok (.bipush 22, 2) := by decide +kernel
theorem dL_passes_577 : decode cL_passes 577 = .ok (.iload 16, 2) := by decide +kernel
theorem dL_passes_579 : decode cL_passes 579 = .ok (.invokestatic 171, 3) := by decide +kernel
theorem dL_passes_582 : decode cL_passes 582 = .ok (.sipush 999, 3) := by decide +kernel
theorem dL_passes_585 : decode cL_passes 585 = .ok (.aload 14, 2) := by decide +kernel
theorem dL_passes_587 : decode cL_passes 587 = .ok (.iload 16, 2) := by decide +kernel
theorem dL_passes_589 : decode cL_passes 589 = .ok (.iaload, 1) := by decide +kernel
theorem dL_passes_590 : decode cL_passes 590 = .ok (.invokestatic 272, 3) := by decide +kernel
theorem dL_passes_593 : decode cL_passes 593 = .ok (.if_icmp .ne 7, 3) := by decide +kernel
theorem dL_passes_596 : decode cL_passes 596 = .ok (.iconst 1, 1) := by decide +kernel
theorem dL_passes_597 : decode cL_passes 597 = .ok (.goto 4, 3) := by decide +kernel
theorem dL_passes_600 : decode cL_passes 600 = .ok (.iconst 0, 1) := by decide +kernel
theorem dL_passes_601 : decode cL_passes 601 = .ok (.istore 8, 2) := by decide +kernel
theorem dL_passes_603 : decode cL_passes 603 = .ok (.iinc 16 1, 3) := by decide +kernel
theorem dL_passes_606 : decode cL_passes 606 = .ok (.goto (-44), 3) := by decide +kernel
theorem dL_passes_609 : decode cL_passes 609 = .ok (.iload 8, 2) := by decide +kernel
theorem dL_passes_611 : decode cL_passes 611 = .ok (.ifCond .eq 26, 3) := by decide +kernel
theorem dL_passes_614 : decode cL_passes 614 = .ok (.aload_n 0, 1) := by decide +kernel
theorem dL_passes_615 : decode cL_passes 615 = .ok (.bipush 8, 2) := by decide +kernel
theorem dL_passes_617 : decode cL_passes 617 = .ok (.iconst 0, 1) := by decide +kernel
theorem dL_passes_618 : decode cL_passes 618 = .ok (.invokestatic 171, 3) := by decide +kernel
theorem dL_passes_621 : decode cL_passes 621 = .ok (.ifCond .lt 16, 3) := by decide +kernel
theorem dL_passes_624 : decode cL_passes 624 = .ok (.aload_n 0, 1) := by decide +kernel
theorem dL_passes_625 : decode cL_passes 625 = .ok (.invokestatic 284, 3) := by decide +kernel
theorem dL_passes_628 : decode cL_passes 628 = .ok (.lload_n 2, 1) := by decide +kernel
theorem dL_passes_629 : decode cL_passes 629 = .ok (.lcmp, 1) := by decide +kernel
theorem dL_passes_630 : decode cL_passes 630 = .ok (.ifCond .ne 7, 3) := by decide +kernel
theorem dL_passes_633 : decode cL_passes 633 = .ok (.iconst 1, 1) := by decide +kernel
theorem dL_passes_634 : decode cL_passes 634 = .ok (.goto 4, 3) := by decide +kernel
theorem dL_passes_637 : decode cL_passes 637 = .ok (.iconst 0, 1) := by decide +kernel
theorem dL_passes_638 : decode cL_passes 638 = .ok (.ireturn, 1) := by decide +kernel
theorem dL_does_0 : decode cL_does 0 = .ok (.aload_n 0, 1) := by decide +kernel
theorem dL_does_1 : decode cL_does 1 = .ok (.invokestatic 284, 3) := by decide +kernel
theorem dL_does_4 : decode cL_does 4 = .ok (.lstore_n 3, 1) := by decide +kernel
theorem dL_does_5 : decode cL_does 5 = .ok (.iconst 1, 1) := by decide +kernel
theorem dL_does_6 : decode cL_does 6 = .ok (.aload_n 0, 1) := by decide +kernel
theorem dL_does_7 : decode cL_does 7 = .ok (.invokevirtual 243, 3) := by decide +kernel
theorem dL_does_10 : decode cL_does 10 = .ok (.invokestatic 258, 3) := by decide +kernel
theorem dL_does_13 : decode cL_does 13 = .ok (.istore 5, 2) := by decide +kernel
theorem dL_does_15 : decode cL_does 15 = .ok (.iload_n 1, 1) := by decide +kernel
theorem dL_does_16 : decode cL_does 16 = .ok (.bipush 15, 2) := by decide +kernel
theorem dL_does_18 : decode cL_does 18 = .ok (.iand, 1) := by decide +kernel
theorem dL_does_19 : decode cL_does 19 = .ok (.tableswitch 229 0 14 #[73, 73, 73, 91, 91, 109, 109, 109, 109, 125, 143, 143, 162, 178, 202], 73) := by decide +kernel
theorem dL_does_92 : decode cL_does 92 = .ok (.aload_n 0, 1) := by decide +kernel
theorem dL_does_93 : decode cL_does 93 = .ok (.iconst 2, 1) := by decide +kernel
theorem dL_does_94 : decode cL_does 94 = .ok (.iload_n 2, 1) := by decide +kernel
theorem dL_does_95 : decode cL_does 95 = .ok (.sipush 255, 3) := by decide +kernel
theorem dL_does_98 : decode cL_does 98 = .ok (.iand, 1) := by decide +kernel
theorem dL_does_99 : decode cL_does 99 = .ok (.iload 5, 2) := by decide +kernel
theorem dL_does_101 : decode cL_does 101 = .ok (.irem, 1) := by decide +kernel
theorem dL_does_102 : decode cL_does 102 = .ok (.invokestatic 171, 3) := by decide +kernel
theorem dL_does_105 : decode cL_does 105 = .ok (.istore 6, 2) := by decide +kernel
theorem dL_does_107 : decode cL_does 107 = .ok (.goto 159, 3) := by decide +kernel
theorem dL_does_110 : decode cL_does 110 = .ok (.aload_n 0, 1) := by decide +kernel
theorem dL_does_111 : decode cL_does 111 = .ok (.iconst 3, 1) := by decide +kernel
theorem dL_does_112 : decode cL_does 112 = .ok (.iload_n 2, 1) := by decide +kernel
theorem dL_does_113 : decode cL_does 113 = .ok (.sipush 255, 3) := by decide +kernel
theorem dL_does_116 : decode cL_does 116 = .ok (.iand, 1) := by decide +kernel
theorem dL_does_117 : decode cL_does 117 = .ok (.iload 5, 2) := by decide +kernel
theorem dL_does_119 : decode cL_does 119 = .ok (.irem, 1) := by decide +kernel
theorem dL_does_120 : decode cL_does 120 = .ok (.invokestatic 171, 3) := by decide +kernel
theorem dL_does_123 : decode cL_does 123 = .ok (.istore 6, 2) := by decide +kernel
theorem dL_does_125 : decode cL_does 125 = .ok (.goto 141, 3) := by decide +kernel
theorem dL_does_128 : decode cL_does 128 = .ok (.aload_n 0, 1) := by decide +kernel
theorem dL_does_129 : decode cL_does 129 = .ok (.iconst 4, 1) := by decide +kernel
theorem dL_does_130 : decode cL_does 130 = .ok (.iconst 1, 1) := by decide +kernel
theorem dL_does_131 : decode cL_does 131 = .ok (.iload_n 2, 1) := by decide +kernel
theorem dL_does_132 : decode cL_does 132 = .ok (.bipush 31, 2) := by decide +kernel
theorem dL_does_134 : decode cL_does 134 = .ok (.iand, 1) := by decide +kernel
theorem dL_does_135 : decode cL_does 135 = .ok (.iadd, 1) := by decide +kernel
theorem dL_does_136 : decode cL_does 136 = .ok (.invokestatic 171, 3) := by decide +kernel
theorem dL_does_139 : decode cL_does 139 = .ok (.istore 6, 2) := by decide +kernel
theorem dL_does_141 : decode cL_does 141 = .ok (.goto 125, 3) := by decide +kernel
theorem dL_does_144 : decode cL_does 144 = .ok (.aload_n 0, 1) := by decide +kernel
theorem dL_does_145 : decode cL_does 145 = .ok (.iconst 5, 1) := by decide +kernel
theorem dL_does_146 : decode cL_does 146 = .ok (.iload_n 2, 1) := by decide +kernel
theorem dL_does_147 : decode cL_does 147 = .ok (.sipush 255, 3) := by decide +kernel
theorem dL_does_150 : decode cL_does 150 = .ok (.iand, 1) := by decide +kernel
theorem dL_does_151 : decode cL_does 151 = .ok (.iload 5, 2) := by decide +kernel
theorem dL_does_153 : decode cL_does 153 = .ok (.irem, 1) := by decide +kernel
theorem dL_does_154 : decode cL_does 154 = .ok (.invokestatic 171, 3) := by decide +kernel
theorem dL_does_157 : decode cL_does 157 = .ok (.istore 6, 2) := by decide +kernel
theorem dL_does_159 : decode cL_does 159 = .ok (.goto 107, 3) := by decide +kernel
theorem dL_does_162 : decode cL_does 162 = .ok (.aload_n 0, 1) := by decide +kernel
theorem dL_does_163 : decode cL_does 163 = .ok (.bipush 6, 2) := by decide +kernel
theorem dL_does_165 : decode cL_does 165 = .ok (.iload_n 2, 1) := by decide +kernel
theorem dL_does_166 : decode cL_does 166 = .ok (.sipush 255, 3) := by decide +kernel
theorem dL_does_169 : decode cL_does 169 = .ok (.iand, 1) := by decide +kernel
theorem dL_does_170 : decode cL_does 170 = .ok (.bipush 11, 2) := by decide +kernel
theorem dL_does_172 : decode cL_does 172 = .ok (.irem, 1) := by decide +kernel
theorem dL_does_173 : decode cL_does 173 = .ok (.invokestatic 171, 3) := by decide +kernel
theorem dL_does_176 : decode cL_does 176 = .ok (.istore 6, 2) := by decide +kernel
theorem dL_does_178 : decode cL_does 178 = .ok (.goto 88, 3) := by decide +kernel
theorem dL_does_181 : decode cL_does 181 = .ok (.aload_n 0, 1) := by decide +kernel
theorem dL_does_182 : decode cL_does 182 = .ok (.bipush 7, 2) := by decide +kernel
theorem dL_does_184 : decode cL_does 184 = .ok (.iload_n 2, 1) := by decide +kernel
theorem dL_does_185 : decode cL_does 185 = .ok (.sipush 1023, 3) := by decide +kernel
theorem dL_does_188 : decode cL_does 188 = .ok (.iand, 1) := by decide +kernel
theorem dL_does_189 : decode cL_does 189 = .ok (.invokestatic 171, 3) := by decide +kernel
theorem dL_does_192 : decode cL_does 192 = .ok (.istore 6, 2) := by decide +kernel
theorem dL_does_194 : decode cL_does 194 = .ok (.goto 72, 3) := by decide +kernel
theorem dL_does_197 : decode cL_does 197 = .ok (.aload_n 0, 1) := by decide +kernel
theorem dL_does_198 : decode cL_does 198 = .ok (.iconst 1, 1) := by decide +kernel
theorem dL_does_199 : decode cL_does 199 = .ok (.iload_n 2, 1) := by decide +kernel
theorem dL_does_200 : decode cL_does 200 = .ok (.sipush 255, 3) := by decide +kernel
theorem dL_does_203 : decode cL_does 203 = .ok (.iand, 1) := by decide +kernel
theorem dL_does_204 : decode cL_does 204 = .ok (.iload 5, 2) := by decide +kernel
theorem dL_does_206 : decode cL_does 206 = .ok (.irem, 1) := by decide +kernel
theorem dL_does_207 : decode cL_does 207 = .ok (.iload_n 2, 1) := by decide +kernel
theorem dL_does_208 : decode cL_does 208 = .ok (.iconst 3, 1) := by decide +kernel
theorem dL_does_209 : decode cL_does 209 = .ok (.ishr, 1) := by decide +kernel
theorem dL_does_210 : decode cL_does 210 = .ok (.bipush 127, 2) := by decide +kernel
theorem dL_does_212 : decode cL_does 212 = .ok (.iand, 1) := by decide +kernel
theorem dL_does_213 : decode cL_does 213 = .ok (.invokestatic 252, 3) := by decide +kernel
theorem dL_does_216 : decode cL_does 216 = .ok (.istore 6, 2) := by decide +kernel
theorem dL_does_218 : decode cL_does 218 = .ok (.goto 48, 3) := by decide +kernel
theorem dL_does_221 : decode cL_does 221 = .ok (.aload_n 0, 1) := by decide +kernel
theorem dL_does_222 : decode cL_does 222 = .ok (.iload_n 2, 1) := by decide +kernel
theorem dL_does_223 : decode cL_does 223 = .ok (.iconst 1, 1) := by decide +kernel
theorem dL_does_224 : decode cL_does 224 = .ok (.iand, 1) := by decide +kernel
theorem dL_does_225 : decode cL_does 225 = .ok (.ifCond .ne 8, 3) := by decide +kernel
theorem dL_does_228 : decode cL_does 228 = .ok (.bipush 9, 2) := by decide +kernel
theorem dL_does_230 : decode cL_does 230 = .ok (.goto 5, 3) := by decide +kernel
theorem dL_does_233 : decode cL_does 233 = .ok (.bipush 10, 2) := by decide +kernel
theorem dL_does_235 : decode cL_does 235 = .ok (.iload_n 2, 1) := by decide +kernel
theorem dL_does_236 : decode cL_does 236 = .ok (.iconst 1, 1) := by decide +kernel
theorem dL_does_237 : decode cL_does 237 = .ok (.ishr, 1) := by decide +kernel
theorem dL_does_238 : decode cL_does 238 = .ok (.iconst 1, 1) := by decide +kernel
theorem dL_does_239 : decode cL_does 239 = .ok (.iand, 1) := by decide +kernel
theorem dL_does_240 : decode cL_does 240 = .ok (.invokestatic 171, 3) := by decide +kernel
theorem dL_does_243 : decode cL_does 243 = .ok (.istore 6, 2) := by decide +kernel
theorem dL_does_245 : decode cL_does 245 = .ok (.goto 21, 3) := by decide +kernel
theorem dL_does_248 : decode cL_does 248 = .ok (.aload_n 0, 1) := by decide +kernel
theorem dL_does_249 : decode cL_does 249 = .ok (.bipush 8, 2) := by decide +kernel
theorem dL_does_251 : decode cL_does 251 = .ok (.iconst 0, 1) := by decide +kernel
theorem dL_does_252 : decode cL_does 252 = .ok (.invokestatic 171, 3) := by decide +kernel
theorem dL_does_255 : decode cL_does 255 = .ok (.bipush (-104), 2) := by decide +kernel
theorem dL_does_257 : decode cL_does 257 = .ok (.if_icmp .eq 7, 3) := by decide +kernel
theorem dL_does_260 : decode cL_does 260 = .ok (.iconst 1, 1) := by decide +kernel
theorem dL_does_261 : decode cL_does 261 = .ok (.goto 4, 3) := by decide +kernel
theorem dL_does_264 : decode cL_does 264 = .ok (.iconst 0, 1) := by decide +kernel
theorem dL_does_265 : decode cL_does 265 = .ok (.ireturn, 1) := by decide +kernel
theorem dL_does_266 : decode cL_does 266 = .ok (.iload 6, 2) := by decide +kernel
theorem dL_does_268 : decode cL_does 268 = .ok (.ifCond .ge 12, 3) := by decide +kernel
theorem dL_does_271 : decode cL_does 271 = .ok (.aload_n 0, 1) := by decide +kernel
theorem dL_does_272 : decode cL_does 272 = .ok (.invokestatic 284, 3) := by decide +kernel
theorem dL_does_275 : decode cL_does 275 = .ok (.lload_n 3, 1) := by decide +kernel
theorem dL_does_276 : decode cL_does 276 = .ok (.lcmp, 1) := by decide +kernel
theorem dL_does_277 : decode cL_does 277 = .ok (.ifCond .ne 7, 3) := by decide +kernel
theorem dL_does_280 : decode cL_does 280 = .ok (.iconst 1, 1) := by decide +kernel
theorem dL_does_281 : decode cL_does 281 = .ok (.goto 4, 3) := by decide +kernel
theorem dL_does_284 : decode cL_does 284 = .ok (.iconst 0, 1) := by decide +kernel
theorem dL_does_285 : decode cL_does 285 = .ok (.ireturn, 1) := by decide +kernel
