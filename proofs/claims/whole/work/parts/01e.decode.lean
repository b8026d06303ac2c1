theorem dX12_name_1 : decode cX12_name 1 = .ok (.iload_n 1, 1) := by decide +kernel
theorem dX12_name_2 : decode cX12_name 2 = .ok (.invokevirtual 735, 3) := by decide +kernel
theorem dX12_name_5 : decode cX12_name 5 = .ok (.ifCond .eq 18, 3) := by decide +kernel
theorem dX12_name_8 : decode cX12_name 8 = .ok (.iload_n 3, 1) := by decide +kernel
theorem dX12_name_9 : decode cX12_name 9 = .ok (.ifCond .lt 14, 3) := by decide +kernel
theorem dX12_name_12 : decode cX12_name 12 = .ok (.iload 4, 2) := by decide +kernel
theorem dX12_name_14 : decode cX12_name 14 = .ok (.iconst 0, 1) := by decide +kernel
theorem dX12_name_15 : decode cX12_name 15 = .ok (.bipush 7, 2) := by decide +kernel
theorem dX12_name_17 : decode cX12_name 17 = .ok (.invokestatic 381, 3) := by decide +kernel
theorem dX12_name_20 : decode cX12_name 20 = .ok (.ifCond .ne 5, 3) := by decide +kernel
theorem dX12_name_23 : decode cX12_name 23 = .ok (.iconst (-1), 1) := by decide +kernel
theorem dX12_name_24 : decode cX12_name 24 = .ok (.ireturn, 1) := by decide +kernel
theorem dX12_name_25 : decode cX12_name 25 = .ok (.lconst 0, 1) := by decide +kernel
theorem dX12_name_26 : decode cX12_name 26 = .ok (.lstore 5, 2) := by decide +kernel
theorem dX12_name_28 : decode cX12_name 28 = .ok (.iload_n 2, 1) := by decide +kernel
theorem dX12_name_29 : decode cX12_name 29 = .ok (.ifCond .ne 29, 3) := by decide +kernel
theorem dX12_name_32 : decode cX12_name 32 = .ok (.iload_n 3, 1) := by decide +kernel
theorem dX12_name_33 : decode cX12_name 33 = .ok (.aload_n 0, 1) := by decide +kernel
theorem dX12_name_34 : decode cX12_name 34 = .ok (.getfield 13, 3) := by decide +kernel
theorem dX12_name_37 : decode cX12_name 37 = .ok (.iload_n 1, 1) := by decide +kernel
theorem dX12_name_38 : decode cX12_name 38 = .ok (.iaload, 1) := by decide +kernel
theorem dX12_name_39 : decode cX12_name 39 = .ok (.if_icmp .ge 19, 3) := by decide +kernel
theorem dX12_name_42 : decode cX12_name 42 = .ok (.aload_n 0, 1) := by decide +kernel
theorem dX12_name_43 : decode cX12_name 43 = .ok (.getfield 17, 3) := by decide +kernel
theorem dX12_name_46 : decode cX12_name 46 = .ok (.bipush 8, 2) := by decide +kernel
theorem dX12_name_48 : decode cX12_name 48 = .ok (.iload_n 1, 1) := by decide +kernel
theorem dX12_name_49 : decode cX12_name 49 = .ok (.imul, 1) := by decide +kernel
theorem dX12_name_50 : decode cX12_name 50 = .ok (.iload_n 3, 1) := by decide +kernel
theorem dX12_name_51 : decode cX12_name 51 = .ok (.iadd, 1) := by decide +kernel
theorem dX12_name_52 : decode cX12_name 52 = .ok (.laload, 1) := by decide +kernel
theorem dX12_name_53 : decode cX12_name 53 = .ok (.lstore 5, 2) := by decide +kernel
theorem dX12_name_55 : decode cX12_name 55 = .ok (.goto 93, 3) := by decide +kernel
theorem dX12_name_58 : decode cX12_name 58 = .ok (.iload_n 2, 1) := by decide +kernel
theorem dX12_name_59 : decode cX12_name 59 = .ok (.iconst 1, 1) := by decide +kernel
theorem dX12_name_60 : decode cX12_name 60 = .ok (.if_icmp .ne 29, 3) := by decide +kernel
theorem dX12_name_63 : decode cX12_name 63 = .ok (.iload_n 3, 1) := by decide +kernel
theorem dX12_name_64 : decode cX12_name 64 = .ok (.aload_n 0, 1) := by decide +kernel
theorem dX12_name_65 : decode cX12_name 65 = .ok (.getfield 36, 3) := by decide +kernel
theorem dX12_name_68 : decode cX12_name 68 = .ok (.iload_n 1, 1) := by decide +kernel
theorem dX12_name_69 : decode cX12_name 69 = .ok (.iaload, 1) := by decide +kernel
theorem dX12_name_70 : decode cX12_name 70 = .ok (.if_icmp .ge 19, 3) := by decide +kernel
theorem dX12_name_73 : decode cX12_name 73 = .ok (.aload_n 0, 1) := by decide +kernel
theorem dX12_name_74 : decode cX12_name 74 = .ok (.getfield 39, 3) := by decide +kernel
theorem dX12_name_77 : decode cX12_name 77 = .ok (.bipush 96, 2) := by decide +kernel
theorem dX12_name_79 : decode cX12_name 79 = .ok (.iload_n 1, 1) := by decide +kernel
theorem dX12_name_80 : decode cX12_name 80 = .ok (.imul, 1) := by decide +kernel
theorem dX12_name_81 : decode cX12_name 81 = .ok (.iload_n 3, 1) := by decide +kernel
theorem dX12_name_82 : decode cX12_name 82 = .ok (.iadd, 1) := by decide +kernel
theorem dX12_name_83 : decode cX12_name 83 = .ok (.laload, 1) := by decide +kernel
theorem dX12_name_84 : decode cX12_name 84 = .ok (.lstore 5, 2) := by decide +kernel
theorem dX12_name_86 : decode cX12_name 86 = .ok (.goto 62, 3) := by decide +kernel
theorem dX12_name_89 : decode cX12_name 89 = .ok (.iload_n 2, 1) := by decide +kernel
theorem dX12_name_90 : decode cX12_name 90 = .ok (.iconst 2, 1) := by decide +kernel
theorem dX12_name_91 : decode cX12_name 91 = .ok (.if_icmp .ne 29, 3) := by decide +kernel
theorem dX12_name_94 : decode cX12_name 94 = .ok (.iload_n 3, 1) := by decide +kernel
theorem dX12_name_95 : decode cX12_name 95 = .ok (.aload_n 0, 1) := by decide +kernel
theorem dX12_name_96 : decode cX12_name 96 = .ok (.getfield 58, 3) := by decide +kernel
theorem dX12_name_99 : decode cX12_name 99 = .ok (.iload_n 1, 1) := by decide +kernel
theorem dX12_name_100 : decode cX12_name 100 = .ok (.iaload, 1) := by decide +kernel
theorem dX12_name_101 : decode cX12_name 101 = .ok (.if_icmp .ge 19, 3) := by decide +kernel
theorem dX12_name_104 : decode cX12_name 104 = .ok (.aload_n 0, 1) := by decide +kernel
theorem dX12_name_105 : decode cX12_name 105 = .ok (.getfield 61, 3) := by decide +kernel
theorem dX12_name_108 : decode cX12_name 108 = .ok (.bipush 16, 2) := by decide +kernel
theorem dX12_name_110 : decode cX12_name 110 = .ok (.iload_n 1, 1) := by decide +kernel
theorem dX12_name_111 : decode cX12_name 111 = .ok (.imul, 1) := by decide +kernel
theorem dX12_name_112 : decode cX12_name 112 = .ok (.iload_n 3, 1) := by decide +kernel
theorem dX12_name_113 : decode cX12_name 113 = .ok (.iadd, 1) := by decide +kernel
theorem dX12_name_114 : decode cX12_name 114 = .ok (.laload, 1) := by decide +kernel
theorem dX12_name_115 : decode cX12_name 115 = .ok (.lstore 5, 2) := by decide +kernel
theorem dX12_name_117 : decode cX12_name 117 = .ok (.goto 31, 3) := by decide +kernel
theorem dX12_name_120 : decode cX12_name 120 = .ok (.iload_n 2, 1) := by decide +kernel
theorem dX12_name_121 : decode cX12_name 121 = .ok (.iconst 3, 1) := by decide +kernel
theorem dX12_name_122 : decode cX12_name 122 = .ok (.if_icmp .ne 26, 3) := by decide +kernel
theorem dX12_name_125 : decode cX12_name 125 = .ok (.iload_n 3, 1) := by decide +kernel
theorem dX12_name_126 : decode cX12_name 126 = .ok (.aload_n 0, 1) := by decide +kernel
theorem dX12_name_127 : decode cX12_name 127 = .ok (.getfield 82, 3) := by decide +kernel
theorem dX12_name_130 : decode cX12_name 130 = .ok (.iload_n 1, 1) := by decide +kernel
theorem dX12_name_131 : decode cX12_name 131 = .ok (.iaload, 1) := by decide +kernel
theorem dX12_name_132 : decode cX12_name 132 = .ok (.if_icmp .ge 16, 3) := by decide +kernel
theorem dX12_name_135 : decode cX12_name 135 = .ok (.aload_n 0, 1) := by decide +kernel
theorem dX12_name_136 : decode cX12_name 136 = .ok (.getfield 85, 3) := by decide +kernel
theorem dX12_name_139 : decode cX12_name 139 = .ok (.bipush 6, 2) := by decide +kernel
theorem dX12_name_141 : decode cX12_name 141 = .ok (.iload_n 1, 1) := by decide +kernel
theorem dX12_name_142 : decode cX12_name 142 = .ok (.imul, 1) := by decide +kernel
theorem dX12_name_143 : decode cX12_name 143 = .ok (.iload_n 3, 1) := by decide +kernel
theorem dX12_name_144 : decode cX12_name 144 = .ok (.iadd, 1) := by decide +kernel
theorem dX12_name_145 : decode cX12_name 145 = .ok (.laload, 1) := by decide +kernel
theorem dX12_name_146 : decode cX12_name 146 = .ok (.lstore 5, 2) := by decide +kernel
theorem dX12_name_148 : decode cX12_name 148 = .ok (.iconst 0, 1) := by decide +kernel
theorem dX12_name_149 : decode cX12_name 149 = .ok (.istore 7, 2) := by decide +kernel
theorem dX12_name_151 : decode cX12_name 151 = .ok (.iload 7, 2) := by decide +kernel
theorem dX12_name_153 : decode cX12_name 153 = .ok (.bipush 8, 2) := by decide +kernel
theorem dX12_name_155 : decode cX12_name 155 = .ok (.if_icmp .ge 22, 3) := by decide +kernel
theorem dX12_name_158 : decode cX12_name 158 = .ok (.lload 5, 2) := by decide +kernel
theorem dX12_name_160 : decode cX12_name 160 = .ok (.bipush 8, 2) := by decide +kernel
theorem dX12_name_162 : decode cX12_name 162 = .ok (.iload 7, 2) := by decide +kernel
theorem dX12_name_164 : decode cX12_name 164 = .ok (.imul, 1) := by decide +kernel
theorem dX12_name_165 : decode cX12_name 165 = .ok (.lushr, 1) := by decide +kernel
theorem dX12_name_166 : decode cX12_name 166 = .ok (.lconst 0, 1) := by decide +kernel
theorem dX12_name_167 : decode cX12_name 167 = .ok (.lcmp, 1) := by decide +kernel
theorem dX12_name_168 : decode cX12_name 168 = .ok (.ifCond .eq 9, 3) := by decide +kernel
theorem dX12_name_171 : decode cX12_name 171 = .ok (.iinc 7 1, 3) := by decide +kernel
theorem dX12_name_174 : decode cX12_name 174 = .ok (.goto (-23), 3) := by decide +kernel
theorem dX12_name_177 : decode cX12_name 177 = .ok (.iload 4, 2) := by decide +kernel
theorem dX12_name_179 : decode cX12_name 179 = .ok (.iload 7, 2) := by decide +kernel
theorem dX12_name_181 : decode cX12_name 181 = .ok (.if_icmp .ge 24, 3) := by decide +kernel
theorem dX12_name_184 : decode cX12_name 184 = .ok (.lload 5, 2) := by decide +kernel
theorem dX12_name_186 : decode cX12_name 186 = .ok (.bipush 8, 2) := by decide +kernel
theorem dX12_name_188 : decode cX12_name 188 = .ok (.iload 7, 2) := by decide +kernel
theorem dX12_name_190 : decode cX12_name 190 = .ok (.iconst 1, 1) := by decide +kernel
theorem dX12_name_191 : decode cX12_name 191 = .ok (.isub, 1) := by decide +kernel
theorem dX12_name_192 : decode cX12_name 192 = .ok (.iload 4, 2) := by decide +kernel
theorem dX12_name_194 : decode cX12_name 194 = .ok (.isub, 1) := by decide +kernel
theorem dX12_name_195 : decode cX12_name 195 = .ok (.imul, 1) := by decide +kernel
theorem dX12_name_196 : decode cX12_name 196 = .ok (.lushr, 1) := by decide +kernel
theorem dX12_name_197 : decode cX12_name 197 = .ok (.ldc2_w 755, 3) := by decide +kernel
theorem dX12_name_200 : decode cX12_name 200 = .ok (.land, 1) := by decide +kernel
theorem dX12_name_201 : decode cX12_name 201 = .ok (.l2i, 1) := by decide +kernel
theorem dX12_name_202 : decode cX12_name 202 = .ok (.goto 4, 3) := by decide +kernel
theorem dX12_name_205 : decode cX12_name 205 = .ok (.iconst (-1), 1) := by decide +kernel
theorem dX12_name_206 : decode cX12_name 206 = .ok (.ireturn, 1) := by decide +kernel
theorem dX12_code__0 : decode cX12_code_ 0 = .ok (.aload_n 0, 1) := by decide +kernel
theorem dX12_code__1 : decode cX12_code_ 1 = .ok (.iload_n 1, 1) := by decide +kernel
theorem dX12_code__2 : decode cX12_code_ 2 = .ok (.invokevirtual 735, 3) := by decide +kernel
theorem dX12_code__5 : decode cX12_code_ 5 = .ok (.ifCond .eq 28, 3) := by decide +kernel
theorem dX12_code__8 : decode cX12_code_ 8 = .ok (.iload_n 2, 1) := by decide +kernel
theorem dX12_code__9 : decode cX12_code_ 9 = .ok (.iconst 0, 1) := by decide +kernel
theorem dX12_code__10 : decode cX12_code_ 10 = .ok (.aload_n 0, 1) := by decide +kernel
theorem dX12_code__11 : decode cX12_code_ 11 = .ok (.getfield 94, 3) := by decide +kernel
theorem dX12_code__14 : decode cX12_code_ 14 = .ok (.iload_n 1, 1) := by decide +kernel
theorem dX12_code__15 : decode cX12_code_ 15 = .ok (.iaload, 1) := by decide +kernel
theorem dX12_code__16 : decode cX12_code_ 16 = .ok (.iconst 1, 1) := by decide +kernel
theorem dX12_code__17 : decode cX12_code_ 17 = .ok (.isub, 1) := by decide +kernel
theorem dX12_code__18 : decode cX12_code_ 18 = .ok (.invokestatic 381, 3) := by decide +kernel
theorem dX12_code__21 : decode cX12_code_ 21 = .ok (.ifCond .eq 12, 3) := by decide +kernel
theorem dX12_code__24 : decode cX12_code_ 24 = .ok (.iload_n 3, 1) := by decide +kernel
theorem dX12_code__25 : decode cX12_code_ 25 = .ok (.iconst 0, 1) := by decide +kernel
theorem dX12_code__26 : decode cX12_code_ 26 = .ok (.iconst 1, 1) := by decide +kernel
theorem dX12_code__27 : decode cX12_code_ 27 = .ok (.invokestatic 381, 3) := by decide +kernel
theorem dX12_code__30 : decode cX12_code_ 30 = .ok (.ifCond .ne 5, 3) := by decide +kernel
theorem dX12_code__33 : decode cX12_code_ 33 = .ok (.iconst (-1), 1) := by decide +kernel
theorem dX12_code__34 : decode cX12_code_ 34 = .ok (.ireturn, 1) := by decide +kernel
theorem dX12_code__35 : decode cX12_code_ 35 = .ok (.aload_n 0, 1) := by decide +kernel
theorem dX12_code__36 : decode cX12_code_ 36 = .ok (.getfield 97, 3) := by decide +kernel
theorem dX12_code__39 : decode cX12_code_ 39 = .ok (.sipush 1000, 3) := by decide +kernel
theorem dX12_code__42 : decode cX12_code_ 42 = .ok (.iload_n 1, 1) := by decide +kernel
theorem dX12_code__43 : decode cX12_code_ 43 = .ok (.imul, 1) := by decide +kernel
theorem dX12_code__44 : decode cX12_code_ 44 = .ok (.iload_n 2, 1) := by decide +kernel
theorem dX12_code__45 : decode cX12_code_ 45 = .ok (.iadd, 1) := by decide +kernel
theorem dX12_code__46 : decode cX12_code_ 46 = .ok (.baload, 1) := by decide +kernel
theorem dX12_code__47 : decode cX12_code_ 47 = .ok (.istore 4, 2) := by decide +kernel
theorem dX12_code__49 : decode cX12_code_ 49 = .ok (.iload 4, 2) := by decide +kernel
theorem dX12_code__51 : decode cX12_code_ 51 = .ok (.bipush 7, 2) := by decide +kernel
theorem dX12_code__53 : decode cX12_code_ 53 = .ok (.if_icmp .le 17, 3) := by decide +kernel
theorem dX12_code__56 : decode cX12_code_ 56 = .ok (.iload 4, 2) := by decide +kernel
theorem dX12_code__58 : decode cX12_code_ 58 = .ok (.bipush 24, 2) := by decide +kernel
theorem dX12_code__60 : decode cX12_code_ 60 = .ok (.if_icmp .lt 14, 3) := by decide +kernel
theorem dX12_code__63 : decode cX12_code_ 63 = .ok (.iload 4, 2) := by decide +kernel
theorem dX12_code__65 : decode cX12_code_ 65 = .ok (.bipush 26, 2) := by decide +kernel
theorem dX12_code__67 : decode cX12_code_ 67 = .ok (.if_icmp .gt 7, 3) := by decide +kernel
theorem dX12_code__70 : decode cX12_code_ 70 = .ok (.iconst 1, 1) := by decide +kernel
theorem dX12_code__71 : decode cX12_code_ 71 = .ok (.goto 4, 3) := by decide +kernel
theorem dX12_code__74 : decode cX12_code_ 74 = .ok (.iconst 0, 1) := by decide +kernel
theorem dX12_code__75 : decode cX12_code_ 75 = .ok (.istore 5, 2) := by decide +kernel
theorem dX12_code__77 : decode cX12_code_ 77 = .ok (.iload_n 3, 1) := by decide +kernel
theorem dX12_code__78 : decode cX12_code_ 78 = .ok (.ifCond .ne 8, 3) := by decide +kernel
theorem dX12_code__81 : decode cX12_code_ 81 = .ok (.iload 4, 2) := by decide +kernel
theorem dX12_code__83 : decode cX12_code_ 83 = .ok (.goto 24, 3) := by decide +kernel
theorem dX12_code__86 : decode cX12_code_ 86 = .ok (.iload 5, 2) := by decide +kernel
theorem dX12_code__88 : decode cX12_code_ 88 = .ok (.ifCond .eq 18, 3) := by decide +kernel
theorem dX12_code__91 : decode cX12_code_ 91 = .ok (.aload_n 0, 1) := by decide +kernel
theorem dX12_code__92 : decode cX12_code_ 92 = .ok (.getfield 100, 3) := by decide +kernel
theorem dX12_code__95 : decode cX12_code_ 95 = .ok (.sipush 1000, 3) := by decide +kernel
theorem dX12_code__98 : decode cX12_code_ 98 = .ok (.iload_n 1, 1) := by decide +kernel
theorem dX12_code__99 : decode cX12_code_ 99 = .ok (.imul, 1) := by decide +kernel
theorem dX12_code__100 : decode cX12_code_ 100 = .ok (.iload_n 2, 1) := by decide +kernel
theorem dX12_code__101 : decode cX12_code_ 101 = .ok (.iadd, 1) := by decide +kernel
theorem dX12_code__102 : decode cX12_code_ 102 = .ok (.iaload, 1) := by decide +kernel
theorem dX12_code__103 : decode cX12_code_ 103 = .ok (.goto 4, 3) := by decide +kernel
theorem dX12_code__106 : decode cX12_code_ 106 = .ok (.iconst 0, 1) := by decide +kernel
theorem dX12_code__107 : decode cX12_code_ 107 = .ok (.ireturn, 1) := by decide +kernel
theorem dX12_steps_0 : decode cX12_steps 0 = .ok (.iload_n 1, 1) := by decide +kernel
theorem dX12_steps_1 : decode cX12_steps 1 = .ok (.iconst 1, 1) := by decide +kernel
theorem dX12_steps_2 : decode cX12_steps 2 = .ok (.sipush 1000, 3) := by decide +kernel
theorem dX12_steps_5 : decode cX12_steps 5 = .ok (.invokestatic 381, 3) := by decide +kernel
theorem dX12_steps_8 : decode cX12_steps 8 = .ok (.ifCond .ne 5, 3) := by decide +kernel
theorem dX12_steps_11 : decode cX12_steps 11 = .ok (.iconst (-1), 1) := by decide +kernel
theorem dX12_steps_12 : decode cX12_steps 12 = .ok (.ireturn, 1) := by decide +kernel
theorem dX12_steps_13 : decode cX12_steps 13 = .ok (.aload_n 0, 1) := by decide +kernel
theorem dX12_steps_14 : decode cX12_steps 14 = .ok (.getfield 239, 3) := by decide +kernel
theorem dX12_steps_17 : decode cX12_steps 17 = .ok (.istore_n 2, 1) := by decide +kernel
theorem dX12_steps_18 : decode cX12_steps 18 = .ok (.aload_n 0, 1) := by decide +kernel
theorem dX12_steps_19 : decode cX12_steps 19 = .ok (.iload_n 1, 1) := by decide +kernel
theorem dX12_steps_20 : decode cX12_steps 20 = .ok (.putfield 239, 3) := by decide +kernel
theorem dX12_steps_23 : decode cX12_steps 23 = .ok (.iload_n 2, 1) := by decide +kernel
theorem dX12_steps_24 : decode cX12_steps 24 = .ok (.ireturn, 1) := by decide +kernel
theorem dX12_seed_0 : decode cX12_seed 0 = .ok (.aload_n 0, 1) := by decide +kernel
theorem dX12_seed_1 : decode cX12_seed 1 = .ok (.getfield 243, 3) := by decide +kernel
theorem dX12_seed_4 : decode cX12_seed 4 = .ok (.istore_n 2, 1) := by decide +kernel
theorem dX12_seed_5 : decode cX12_seed 5 = .ok (.aload_n 0, 1) := by decide +kernel
theorem dX12_seed_6 : decode cX12_seed 6 = .ok (.iload_n 1, 1) := by decide +kernel
theorem dX12_seed_7 : decode cX12_seed 7 = .ok (.putfield 243, 3) := by decide +kernel
theorem dX12_seed_10 : decode cX12_seed 10 = .ok (.iload_n 2, 1) := by decide +kernel
theorem dX12_seed_11 : decode cX12_seed 11 = .ok (.ireturn, 1) := by decide +kernel
theorem dX12_swap_0 : decode cX12_swap 0 = .ok (.aload_n 0, 1) := by decide +kernel
theorem dX12_swap_1 : decode cX12_swap 1 = .ok (.iload_n 1, 1) := by decide +kernel
theorem dX12_swap_2 : decode cX12_swap 2 = .ok (.iload_n 2, 1) := by decide +kernel
theorem dX12_swap_3 : decode cX12_swap 3 = .ok (.invokevirtual 747, 3) := by decide +kernel
theorem dX12_swap_6 : decode cX12_swap 6 = .ok (.ifCond .eq 12, 3) := by decide +kernel
theorem dX12_swap_9 : decode cX12_swap 9 = .ok (.aload_n 0, 1) := by decide +kernel
theorem dX12_swap_10 : decode cX12_swap 10 = .ok (.iload_n 1, 1) := by decide +kernel
theorem dX12_swap_11 : decode cX12_swap 11 = .ok (.iload_n 3, 1) := by decide +kernel
theorem dX12_swap_12 : decode cX12_swap 12 = .ok (.invokevirtual 747, 3) := by decide +kernel
theorem dX12_swap_15 : decode cX12_swap 15 = .ok (.ifCond .ne 5, 3) := by decide +kernel
theorem dX12_swap_18 : decode cX12_swap 18 = .ok (.iconst (-1), 1) := by decide +kernel
theorem dX12_swap_19 : decode cX12_swap 19 = .ok (.ireturn, 1) := by decide +kernel
theorem dX12_swap_20 : decode cX12_swap 20 = .ok (.aload_n 0, 1) := by decide +kernel
theorem dX12_swap_21 : decode cX12_swap 21 = .ok (.getfield 79, 3) := by decide +kernel
theorem dX12_swap_24 : decode cX12_swap 24 = .ok (.bipush 16, 2) := by decide +kernel
theorem dX12_swap_26 : decode cX12_swap 26 = .ok (.iload_n 1, 1) := by decide +kernel
theorem dX12_swap_27 : decode cX12_swap 27 = .ok (.imul, 1) := by decide +kernel
theorem dX12_swap_28 : decode cX12_swap 28 = .ok (.iload_n 2, 1) := by decide +kernel
theorem dX12_swap_29 : decode cX12_swap 29 = .ok (.iadd, 1) := by decide +kernel
theorem dX12_swap_30 : decode cX12_swap 30 = .ok (.iaload, 1) := by decide +kernel
theorem dX12_swap_31 : decode cX12_swap 31 = .ok (.istore 4, 2) := by decide +kernel
theorem dX12_swap_33 : decode cX12_swap 33 = .ok (.aload_n 0, 1) := by decide +kernel
theorem dX12_swap_34 : decode cX12_swap 34 = .ok (.getfield 79, 3) := by decide +kernel
theorem dX12_swap_37 : decode cX12_swap 37 = .ok (.bipush 16, 2) := by decide +kernel
theorem dX12_swap_39 : decode cX12_swap 39 = .ok (.iload_n 1, 1) := by decide +kernel
theorem dX12_swap_40 : decode cX12_swap 40 = .ok (.imul, 1) := by decide +kernel
theorem dX12_swap_41 : decode cX12_swap 41 = .ok (.iload_n 2, 1) := by decide +kernel
theorem dX12_swap_42 : decode cX12_swap 42 = .ok (.iadd, 1) := by decide +kernel
theorem dX12_swap_43 : decode cX12_swap 43 = .ok (.aload_n 0, 1) := by decide +kernel
theorem dX12_swap_44 : decode cX12_swap 44 = .ok (.getfield 79, 3) := by decide +kernel
theorem dX12_swap_47 : decode cX12_swap 47 = .ok (.bipush 16, 2) := by decide +kernel
theorem dX12_swap_49 : decode cX12_swap 49 = .ok (.iload_n 1, 1) := by decide +kernel
theorem dX12_swap_50 : decode cX12_swap 50 = .ok (.imul, 1) := by decide +kernel
theorem dX12_swap_51 : decode cX12_swap 51 = .ok (.iload_n 3, 1) := by decide +kernel
theorem dX12_swap_52 : decode cX12_swap 52 = .ok (.iadd, 1) := by decide +kernel
theorem dX12_swap_53 : decode cX12_swap 53 = .ok (.iaload, 1) := by decide +kernel
theorem dX12_swap_54 : decode cX12_swap 54 = .ok (.iastore, 1) := by decide +kernel
theorem dX12_swap_55 : decode cX12_swap 55 = .ok (.aload_n 0, 1) := by decide +kernel
theorem dX12_swap_56 : decode cX12_swap 56 = .ok (.getfield 79, 3) := by decide +kernel
theorem dX12_swap_59 : decode cX12_swap 59 = .ok (.bipush 16, 2) := by decide +kernel
theorem dX12_swap_61 : decode cX12_swap 61 = .ok (.iload_n 1, 1) := by decide +kernel
theorem dX12_swap_62 : decode cX12_swap 62 = .ok (.imul, 1) := by decide +kernel
theorem dX12_swap_63 : decode cX12_swap 63 = .ok (.iload_n 3, 1) := by decide +kernel
theorem dX12_swap_64 : decode cX12_swap 64 = .ok (.iadd, 1) := by decide +kernel
theorem dX12_swap_65 : decode cX12_swap 65 = .ok (.iload 4, 2) := by decide +kernel
theorem dX12_swap_67 : decode cX12_swap 67 = .ok (.iastore, 1) := by decide +kernel
theorem dX12_swap_68 : decode cX12_swap 68 = .ok (.aload_n 0, 1) := by decide +kernel
theorem dX12_swap_69 : decode cX12_swap 69 = .ok (.getfield 79, 3) := by decide +kernel
theorem dX12_swap_72 : decode cX12_swap 72 = .ok (.bipush 16, 2) := by decide +kernel
theorem dX12_swap_74 : decode cX12_swap 74 = .ok (.iload_n 1, 1) := by decide +kernel
theorem dX12_swap_75 : decode cX12_swap 75 = .ok (.imul, 1) := by decide +kernel
theorem dX12_swap_76 : decode cX12_swap 76 = .ok (.iload_n 2, 1) := by decide +kernel
theorem dX12_swap_77 : decode cX12_swap 77 = .ok (.iadd, 1) := by decide +kernel
theorem dX12_swap_78 : decode cX12_swap 78 = .ok (.iaload, 1) := by decide +kernel
theorem dX12_swap_79 : decode cX12_swap 79 = .ok (.ireturn, 1) := by decide +kernel
theorem dX12_seatOf_0 : decode cX12_seatOf 0 = .ok (.iconst (-1), 1) := by decide +kernel
theorem dX12_seatOf_1 : decode cX12_seatOf 1 = .ok (.istore_n 2, 1) := by decide +kernel
theorem dX12_seatOf_2 : decode cX12_seatOf 2 = .ok (.iconst 0, 1) := by decide +kernel
theorem dX12_seatOf_3 : decode cX12_seatOf 3 = .ok (.istore_n 3, 1) := by decide +kernel
theorem dX12_seatOf_4 : decode cX12_seatOf 4 = .ok (.iload_n 3, 1) := by decide +kernel
theorem dX12_seatOf_5 : decode cX12_seatOf 5 = .ok (.bipush 8, 2) := by decide +kernel
theorem dX12_seatOf_7 : decode cX12_seatOf 7 = .ok (.if_icmp .ge 29, 3) := by decide +kernel
theorem dX12_seatOf_10 : decode cX12_seatOf 10 = .ok (.iload_n 1, 1) := by decide +kernel
theorem dX12_seatOf_11 : decode cX12_seatOf 11 = .ok (.ifCond .lt 17, 3) := by decide +kernel
theorem dX12_seatOf_14 : decode cX12_seatOf 14 = .ok (.aload_n 0, 1) := by decide +kernel
theorem dX12_seatOf_15 : decode cX12_seatOf 15 = .ok (.getfield 282, 3) := by decide +kernel
theorem dX12_seatOf_18 : decode cX12_seatOf 18 = .ok (.iload_n 3, 1) := by decide +kernel
theorem dX12_seatOf_19 : decode cX12_seatOf 19 = .ok (.iaload, 1) := by decide +kernel
theorem dX12_seatOf_20 : decode cX12_seatOf 20 = .ok (.iload_n 1, 1) := by decide +kernel
theorem dX12_seatOf_21 : decode cX12_seatOf 21 = .ok (.if_icmp .ne 7, 3) := by decide +kernel
theorem dX12_seatOf_24 : decode cX12_seatOf 24 = .ok (.iload_n 3, 1) := by decide +kernel
theorem dX12_seatOf_25 : decode cX12_seatOf 25 = .ok (.goto 4, 3) := by decide +kernel
theorem dX12_seatOf_28 : decode cX12_seatOf 28 = .ok (.iload_n 2, 1) := by decide +kernel
theorem dX12_seatOf_29 : decode cX12_seatOf 29 = .ok (.istore_n 2, 1) := by decide +kernel
theorem dX12_seatOf_30 : decode cX12_seatOf 30 = .ok (.iinc 3 1, 3) := by decide +kernel
theorem dX12_seatOf_33 : decode cX12_seatOf 33 = .ok (.goto (-29), 3) := by decide +kernel
theorem dX12_seatOf_36 : decode cX12_seatOf 36 = .ok (.iload_n 2, 1) := by decide +kernel
theorem dX12_seatOf_37 : decode cX12_seatOf 37 = .ok (.ireturn, 1) := by decide +kernel
theorem dX12_doubleOf_0 : decode cX12_doubleOf 0 = .ok (.iconst (-1), 1) := by decide +kernel
theorem dX12_doubleOf_1 : decode cX12_doubleOf 1 = .ok (.istore_n 3, 1) := by decide +kernel
theorem dX12_doubleOf_2 : decode cX12_doubleOf 2 = .ok (.iconst 0, 1) := by decide +kernel
theorem dX12_doubleOf_3 : decode cX12_doubleOf 3 = .ok (.istore 4, 2) := by decide +kernel
theorem dX12_doubleOf_5 : decode cX12_doubleOf 5 = .ok (.iload 4, 2) := by decide +kernel
theorem dX12_doubleOf_7 : decode cX12_doubleOf 7 = .ok (.bipush 8, 2) := by decide +kernel
theorem dX12_doubleOf_9 : decode cX12_doubleOf 9 = .ok (.if_icmp .ge 48, 3) := by decide +kernel
theorem dX12_doubleOf_12 : decode cX12_doubleOf 12 = .ok (.aload_n 0, 1) := by decide +kernel
theorem dX12_doubleOf_13 : decode cX12_doubleOf 13 = .ok (.getfield 282, 3) := by decide +kernel
theorem dX12_doubleOf_16 : decode cX12_doubleOf 16 = .ok (.iload 4, 2) := by decide +kernel
theorem dX12_doubleOf_18 : decode cX12_doubleOf 18 = .ok (.iaload, 1) := by decide +kernel
theorem dX12_doubleOf_19 : decode cX12_doubleOf 19 = .ok (.ifCond .lt 30, 3) := by decide +kernel
theorem dX12_doubleOf_22 : decode cX12_doubleOf 22 = .ok (.aload_n 0, 1) := by decide +kernel
theorem dX12_doubleOf_23 : decode cX12_doubleOf 23 = .ok (.getfield 285, 3) := by decide +kernel
theorem dX12_doubleOf_26 : decode cX12_doubleOf 26 = .ok (.iload 4, 2) := by decide +kernel
theorem dX12_doubleOf_28 : decode cX12_doubleOf 28 = .ok (.iaload, 1) := by decide +kernel
theorem dX12_doubleOf_29 : decode cX12_doubleOf 29 = .ok (.iload_n 1, 1) := by decide +kernel
theorem dX12_doubleOf_30 : decode cX12_doubleOf 30 = .ok (.if_icmp .ne 19, 3) := by decide +kernel
theorem dX12_doubleOf_33 : decode cX12_doubleOf 33 = .ok (.aload_n 0, 1) := by decide +kernel
theorem dX12_doubleOf_34 : decode cX12_doubleOf 34 = .ok (.getfield 288, 3) := by decide +kernel
theorem dX12_doubleOf_37 : decode cX12_doubleOf 37 = .ok (.iload 4, 2) := by decide +kernel
theorem dX12_doubleOf_39 : decode cX12_doubleOf 39 = .ok (.iaload, 1) := by decide +kernel
theorem dX12_doubleOf_40 : decode cX12_doubleOf 40 = .ok (.iload_n 2, 1) := by decide +kernel
theorem dX12_doubleOf_41 : decode cX12_doubleOf 41 = .ok (.if_icmp .ne 8, 3) := by decide +kernel
theorem dX12_doubleOf_44 : decode cX12_doubleOf 44 = .ok (.iload 4, 2) := by decide +kernel
theorem dX12_doubleOf_46 : decode cX12_doubleOf 46 = .ok (.goto 4, 3) := by decide +kernel
theorem dX12_doubleOf_49 : decode cX12_doubleOf 49 = .ok (.iload_n 3, 1) := by decide +kernel
theorem dX12_doubleOf_50 : decode cX12_doubleOf 50 = .ok (.istore_n 3, 1) := by decide +kernel
theorem dX12_doubleOf_51 : decode cX12_doubleOf 51 = .ok (.iinc 4 1, 3) := by decide +kernel
theorem dX12_doubleOf_54 : decode cX12_doubleOf 54 = .ok (.goto (-49), 3) := by decide +kernel
theorem dX12_doubleOf_57 : decode cX12_doubleOf 57 = .ok (.iload_n 3, 1) := by decide +kernel
theorem dX12_doubleOf_58 : decode cX12_doubleOf 58 = .ok (.ireturn, 1) := by decide +kernel
theorem dX12_twin_0 : decode cX12_twin 0 = .ok (.aload_n 0, 1) := by decide +kernel
theorem dX12_twin_1 : decode cX12_twin 1 = .ok (.iload_n 1, 1) := by decide +kernel
theorem dX12_twin_2 : decode cX12_twin 2 = .ok (.invokevirtual 735, 3) := by decide +kernel
theorem dX12_twin_5 : decode cX12_twin 5 = .ok (.ifCond .eq 34, 3) := by decide +kernel
theorem dX12_twin_8 : decode cX12_twin 8 = .ok (.iload_n 2, 1) := by decide +kernel
theorem dX12_twin_9 : decode cX12_twin 9 = .ok (.iconst 0, 1) := by decide +kernel
theorem dX12_twin_10 : decode cX12_twin 10 = .ok (.aload_n 0, 1) := by decide +kernel
theorem dX12_twin_11 : decode cX12_twin 11 = .ok (.getfield 36, 3) := by decide +kernel
theorem dX12_twin_14 : decode cX12_twin 14 = .ok (.iload_n 1, 1) := by decide +kernel
theorem dX12_twin_15 : decode cX12_twin 15 = .ok (.iaload, 1) := by decide +kernel
theorem dX12_twin_16 : decode cX12_twin 16 = .ok (.iconst 1, 1) := by decide +kernel
theorem dX12_twin_17 : decode cX12_twin 17 = .ok (.isub, 1) := by decide +kernel
theorem dX12_twin_18 : decode cX12_twin 18 = .ok (.invokestatic 381, 3) := by decide +kernel
theorem dX12_twin_21 : decode cX12_twin 21 = .ok (.ifCond .eq 18, 3) := by decide +kernel
theorem dX12_twin_24 : decode cX12_twin 24 = .ok (.aload_n 0, 1) := by decide +kernel
theorem dX12_twin_25 : decode cX12_twin 25 = .ok (.getfield 45, 3) := by decide +kernel
theorem dX12_twin_28 : decode cX12_twin 28 = .ok (.bipush 96, 2) := by decide +kernel
theorem dX12_twin_30 : decode cX12_twin 30 = .ok (.iload_n 1, 1) := by decide +kernel
theorem dX12_twin_31 : decode cX12_twin 31 = .ok (.imul, 1) := by decide +kernel
theorem dX12_twin_32 : decode cX12_twin 32 = .ok (.iload_n 2, 1) := by decide +kernel
theorem dX12_twin_33 : decode cX12_twin 33 = .ok (.iadd, 1) := by decide +kernel
theorem dX12_twin_34 : decode cX12_twin 34 = .ok (.iaload, 1) := by decide +kernel
theorem dX12_twin_35 : decode cX12_twin 35 = .ok (.iconst 4, 1) := by decide +kernel
theorem dX12_twin_36 : decode cX12_twin 36 = .ok (.if_icmp .eq 5, 3) := by decide +kernel
theorem dX12_twin_39 : decode cX12_twin 39 = .ok (.iconst (-1), 1) := by decide +kernel
theorem dX12_twin_40 : decode cX12_twin 40 = .ok (.ireturn, 1) := by decide +kernel
theorem dX12_twin_41 : decode cX12_twin 41 = .ok (.aload_n 0, 1) := by decide +kernel
theorem dX12_twin_42 : decode cX12_twin 42 = .ok (.iload_n 1, 1) := by decide +kernel
theorem dX12_twin_43 : decode cX12_twin 43 = .ok (.iload_n 2, 1) := by decide +kernel
theorem dX12_twin_44 : decode cX12_twin 44 = .ok (.invokevirtual 705, 3) := by decide +kernel
theorem dX12_twin_47 : decode cX12_twin 47 = .ok (.ifCond .lt 6, 3) := by decide +kernel
theorem dX12_twin_50 : decode cX12_twin 50 = .ok (.bipush (-2), 2) := by decide +kernel
theorem dX12_twin_52 : decode cX12_twin 52 = .ok (.ireturn, 1) := by decide +kernel
theorem dX12_twin_53 : decode cX12_twin 53 = .ok (.iconst 0, 1) := by decide +kernel
theorem dX12_twin_54 : decode cX12_twin 54 = .ok (.istore_n 3, 1) := by decide +kernel
theorem dX12_twin_55 : decode cX12_twin 55 = .ok (.iload_n 3, 1) := by decide +kernel
theorem dX12_twin_56 : decode cX12_twin 56 = .ok (.bipush 8, 2) := by decide +kernel
theorem dX12_twin_58 : decode cX12_twin 58 = .ok (.if_icmp .ge 18, 3) := by decide +kernel
theorem dX12_twin_61 : decode cX12_twin 61 = .ok (.aload_n 0, 1) := by decide +kernel
theorem dX12_twin_62 : decode cX12_twin 62 = .ok (.getfield 282, 3) := by decide +kernel
theorem dX12_twin_65 : decode cX12_twin 65 = .ok (.iload_n 3, 1) := by decide +kernel
theorem dX12_twin_66 : decode cX12_twin 66 = .ok (.iaload, 1) := by decide +kernel
theorem dX12_twin_67 : decode cX12_twin 67 = .ok (.ifCond .lt 9, 3) := by decide +kernel
theorem dX12_twin_70 : decode cX12_twin 70 = .ok (.iinc 3 1, 3) := by decide +kernel
theorem dX12_twin_73 : decode cX12_twin 73 = .ok (.goto (-18), 3) := by decide +kernel
theorem dX12_twin_76 : decode cX12_twin 76 = .ok (.iload_n 3, 1) := by decide +kernel
theorem dX12_twin_77 : decode cX12_twin 77 = .ok (.bipush 8, 2) := by decide +kernel
theorem dX12_twin_79 : decode cX12_twin 79 = .ok (.if_icmp .ne 6, 3) := by decide +kernel
theorem dX12_twin_82 : decode cX12_twin 82 = .ok (.bipush (-3), 2) := by decide +kernel
theorem dX12_twin_84 : decode cX12_twin 84 = .ok (.ireturn, 1) := by decide +kernel
theorem dX12_twin_85 : decode cX12_twin 85 = .ok (.aload_n 0, 1) := by decide +kernel
theorem dX12_twin_86 : decode cX12_twin 86 = .ok (.getfield 282, 3) := by decide +kernel
theorem dX12_twin_89 : decode cX12_twin 89 = .ok (.iload_n 3, 1) := by decide +kernel
theorem dX12_twin_90 : decode cX12_twin 90 = .ok (.aload_n 0, 1) := by decide +kernel
theorem dX12_twin_91 : decode cX12_twin 91 = .ok (.getfield 757, 3) := by decide +kernel
theorem dX12_twin_94 : decode cX12_twin 94 = .ok (.iastore, 1) := by decide +kernel
theorem dX12_twin_95 : decode cX12_twin 95 = .ok (.aload_n 0, 1) := by decide +kernel
theorem dX12_twin_96 : decode cX12_twin 96 = .ok (.dup, 1) := by decide +kernel
theorem dX12_twin_97 : decode cX12_twin 97 = .ok (.getfield 757, 3) := by decide +kernel
theorem dX12_twin_100 : decode cX12_twin 100 = .ok (.iconst 1, 1) := by decide +kernel
theorem dX12_twin_101 : decode cX12_twin 101 = .ok (.iadd, 1) := by decide +kernel
theorem dX12_twin_102 : decode cX12_twin 102 = .ok (.putfield 757, 3) := by decide +kernel
theorem dX12_twin_105 : decode cX12_twin 105 = .ok (.aload_n 0, 1) := by decide +kernel
theorem dX12_twin_106 : decode cX12_twin 106 = .ok (.getfield 285, 3) := by decide +kernel
theorem dX12_twin_109 : decode cX12_twin 109 = .ok (.iload_n 3, 1) := by decide +kernel
theorem dX12_twin_110 : decode cX12_twin 110 = .ok (.iload_n 1, 1) := by decide +kernel
theorem dX12_twin_111 : decode cX12_twin 111 = .ok (.iastore, 1) := by decide +kernel
theorem dX12_twin_112 : decode cX12_twin 112 = .ok (.aload_n 0, 1) := by decide +kernel
theorem dX12_twin_113 : decode cX12_twin 113 = .ok (.getfield 288, 3) := by decide +kernel
theorem dX12_twin_116 : decode cX12_twin 116 = .ok (.iload_n 3, 1) := by decide +kernel
theorem dX12_twin_117 : decode cX12_twin 117 = .ok (.iload_n 2, 1) := by decide +kernel
theorem dX12_twin_118 : decode cX12_twin 118 = .ok (.iastore, 1) := by decide +kernel
theorem dX12_twin_119 : decode cX12_twin 119 = .ok (.aload_n 0, 1) := by decide +kernel
theorem dX12_twin_120 : decode cX12_twin 120 = .ok (.getfield 291, 3) := by decide +kernel
theorem dX12_twin_123 : decode cX12_twin 123 = .ok (.iload_n 3, 1) := by decide +kernel
theorem dX12_twin_124 : decode cX12_twin 124 = .ok (.iconst 0, 1) := by decide +kernel
theorem dX12_twin_125 : decode cX12_twin 125 = .ok (.iastore, 1) := by decide +kernel
theorem dX12_twin_126 : decode cX12_twin 126 = .ok (.aload_n 0, 1) := by decide +kernel
theorem dX12_twin_127 : decode cX12_twin 127 = .ok (.getfield 306, 3) := by decide +kernel
theorem dX12_twin_130 : decode cX12_twin 130 = .ok (.iload_n 3, 1) := by decide +kernel
theorem dX12_twin_131 : decode cX12_twin 131 = .ok (.iconst 0, 1) := by decide +kernel
theorem dX12_twin_132 : decode cX12_twin 132 = .ok (.iastore, 1) := by decide +kernel
theorem dX12_twin_133 : decode cX12_twin 133 = .ok (.aload_n 0, 1) := by decide +kernel
theorem dX12_twin_134 : decode cX12_twin 134 = .ok (.getfield 282, 3) := by decide +kernel
theorem dX12_twin_137 : decode cX12_twin 137 = .ok (.iload_n 3, 1) := by decide +kernel
theorem dX12_twin_138 : decode cX12_twin 138 = .ok (.iaload, 1) := by decide +kernel
theorem dX12_twin_139 : decode cX12_twin 139 = .ok (.ireturn, 1) := by decide +kernel
theorem dX12_parametersOf_0 : decode cX12_parametersOf 0 = .ok (.aload_n 0, 1) := by decide +kernel
theorem dX12_parametersOf_1 : decode cX12_parametersOf 1 = .ok (.getfield 52, 3) := by decide +kernel
theorem dX12_parametersOf_4 : decode cX12_parametersOf 4 = .ok (.bipush 96, 2) := by decide +kernel
theorem dX12_parametersOf_6 : decode cX12_parametersOf 6 = .ok (.aload_n 0, 1) := by decide +kernel
theorem dX12_parametersOf_7 : decode cX12_parametersOf 7 = .ok (.getfield 285, 3) := by decide +kernel
theorem dX12_parametersOf_10 : decode cX12_parametersOf 10 = .ok (.iload_n 1, 1) := by decide +kernel
theorem dX12_parametersOf_11 : decode cX12_parametersOf 11 = .ok (.iaload, 1) := by decide +kernel
theorem dX12_parametersOf_12 : decode cX12_parametersOf 12 = .ok (.imul, 1) := by decide +kernel
theorem dX12_parametersOf_13 : decode cX12_parametersOf 13 = .ok (.aload_n 0, 1) := by decide +kernel
theorem dX12_parametersOf_14 : decode cX12_parametersOf 14 = .ok (.getfield 288, 3) := by decide +kernel
theorem dX12_parametersOf_17 : decode cX12_parametersOf 17 = .ok (.iload_n 1, 1) := by decide +kernel
theorem dX12_parametersOf_18 : decode cX12_parametersOf 18 = .ok (.iaload, 1) := by decide +kernel
theorem dX12_parametersOf_19 : decode cX12_parametersOf 19 = .ok (.iadd, 1) := by decide +kernel
theorem dX12_parametersOf_20 : decode cX12_parametersOf 20 = .ok (.iaload, 1) := by decide +kernel
theorem dX12_parametersOf_21 : decode cX12_parametersOf 21 = .ok (.ireturn, 1) := by decide +kernel
theorem dX12_rule_0 : decode cX12_rule 0 = .ok (.aload_n 0, 1) := by decide +kernel
theorem dX12_rule_1 : decode cX12_rule 1 = .ok (.iload_n 1, 1) := by decide +kernel
theorem dX12_rule_2 : decode cX12_rule 2 = .ok (.invokevirtual 760, 3) := by decide +kernel
theorem dX12_rule_5 : decode cX12_rule 5 = .ok (.istore 6, 2) := by decide +kernel
theorem dX12_rule_7 : decode cX12_rule 7 = .ok (.iload 6, 2) := by decide +kernel
theorem dX12_rule_9 : decode cX12_rule 9 = .ok (.ifCond .lt 19, 3) := by decide +kernel
theorem dX12_rule_12 : decode cX12_rule 12 = .ok (.iload_n 2, 1) := by decide +kernel
theorem dX12_rule_13 : decode cX12_rule 13 = .ok (.iconst (-1), 1) := by decide +kernel
theorem dX12_rule_14 : decode cX12_rule 14 = .ok (.aload_n 0, 1) := by decide +kernel
theorem dX12_rule_15 : decode cX12_rule 15 = .ok (.iload 6, 2) := by decide +kernel
theorem dX12_rule_17 : decode cX12_rule 17 = .ok (.invokevirtual 763, 3) := by decide +kernel
theorem dX12_rule_20 : decode cX12_rule 20 = .ok (.iconst 1, 1) := by decide +kernel
theorem dX12_rule_21 : decode cX12_rule 21 = .ok (.isub, 1) := by decide +kernel
theorem dX12_rule_22 : decode cX12_rule 22 = .ok (.invokestatic 381, 3) := by decide +kernel
theorem dX12_rule_25 : decode cX12_rule 25 = .ok (.ifCond .ne 5, 3) := by decide +kernel
theorem dX12_rule_28 : decode cX12_rule 28 = .ok (.iconst (-1), 1) := by decide +kernel
theorem dX12_rule_29 : decode cX12_rule 29 = .ok (.ireturn, 1) := by decide +kernel
theorem dX12_rule_30 : decode cX12_rule 30 = .ok (.aload_n 0, 1) := by decide +kernel
theorem dX12_rule_31 : decode cX12_rule 31 = .ok (.getfield 291, 3) := by decide +kernel
theorem dX12_rule_34 : decode cX12_rule 34 = .ok (.iload 6, 2) := by decide +kernel
theorem dX12_rule_36 : decode cX12_rule 36 = .ok (.iaload, 1) := by decide +kernel
theorem dX12_rule_37 : decode cX12_rule 37 = .ok (.bipush 8, 2) := by decide +kernel
theorem dX12_rule_39 : decode cX12_rule 39 = .ok (.if_icmp .ne 6, 3) := by decide +kernel
theorem dX12_rule_42 : decode cX12_rule 42 = .ok (.bipush (-3), 2) := by decide +kernel
theorem dX12_rule_44 : decode cX12_rule 44 = .ok (.ireturn, 1) := by decide +kernel
theorem dX12_rule_45 : decode cX12_rule 45 = .ok (.bipush 8, 2) := by decide +kernel
theorem dX12_rule_47 : decode cX12_rule 47 = .ok (.iload 6, 2) := by decide +kernel
theorem dX12_rule_49 : decode cX12_rule 49 = .ok (.imul, 1) := by decide +kernel
theorem dX12_rule_50 : decode cX12_rule 50 = .ok (.aload_n 0, 1) := by decide +kernel
theorem dX12_rule_51 : decode cX12_rule 51 = .ok (.getfield 291, 3) := by decide +kernel
theorem dX12_rule_54 : decode cX12_rule 54 = .ok (.iload 6, 2) := by decide +kernel
theorem dX12_rule_56 : decode cX12_rule 56 = .ok (.iaload, 1) := by decide +kernel
theorem dX12_rule_57 : decode cX12_rule 57 = .ok (.iadd, 1) := by decide +kernel
theorem dX12_rule_58 : decode cX12_rule 58 = .ok (.istore 7, 2) := by decide +kernel
theorem dX12_rule_60 : decode cX12_rule 60 = .ok (.aload_n 0, 1) := by decide +kernel
theorem dX12_rule_61 : decode cX12_rule 61 = .ok (.getfield 294, 3) := by decide +kernel
theorem dX12_rule_64 : decode cX12_rule 64 = .ok (.iload 7, 2) := by decide +kernel
theorem dX12_rule_66 : decode cX12_rule 66 = .ok (.iload_n 2, 1) := by decide +kernel
theorem dX12_rule_67 : decode cX12_rule 67 = .ok (.iastore, 1) := by decide +kernel
theorem dX12_rule_68 : decode cX12_rule 68 = .ok (.aload_n 0, 1) := by decide +kernel
theorem dX12_rule_69 : decode cX12_rule 69 = .ok (.getfield 297, 3) := by decide +kernel
theorem dX12_rule_72 : decode cX12_rule 72 = .ok (.iload 7, 2) := by decide +kernel
theorem dX12_rule_74 : decode cX12_rule 74 = .ok (.iload_n 3, 1) := by decide +kernel
theorem dX12_rule_75 : decode cX12_rule 75 = .ok (.iastore, 1) := by decide +kernel
theorem dX12_rule_76 : decode cX12_rule 76 = .ok (.aload_n 0, 1) := by decide +kernel
theorem dX12_rule_77 : decode cX12_rule 77 = .ok (.getfield 300, 3) := by decide +kernel
theorem dX12_rule_80 : decode cX12_rule 80 = .ok (.iload 7, 2) := by decide +kernel
theorem dX12_rule_82 : decode cX12_rule 82 = .ok (.iload 4, 2) := by decide +kernel
theorem dX12_rule_84 : decode cX12_rule 84 = .ok (.bastore, 1) := by decide +kernel
theorem dX12_rule_85 : decode cX12_rule 85 = .ok (.aload_n 0, 1) := by decide +kernel
theorem dX12_rule_86 : decode cX12_rule 86 = .ok (.getfield 303, 3) := by decide +kernel
theorem dX12_rule_89 : decode cX12_rule 89 = .ok (.iload 7, 2) := by decide +kernel
theorem dX12_rule_91 : decode cX12_rule 91 = .ok (.iload 5, 2) := by decide +kernel
theorem dX12_rule_93 : decode cX12_rule 93 = .ok (.iastore, 1) := by decide +kernel
theorem dX12_rule_94 : decode cX12_rule 94 = .ok (.aload_n 0, 1) := by decide +kernel
theorem dX12_rule_95 : decode cX12_rule 95 = .ok (.getfield 291, 3) := by decide +kernel
theorem dX12_rule_98 : decode cX12_rule 98 = .ok (.iload 6, 2) := by decide +kernel
theorem dX12_rule_100 : decode cX12_rule 100 = .ok (.dup2, 1) := by decide +kernel
theorem dX12_rule_101 : decode cX12_rule 101 = .ok (.iaload, 1) := by decide +kernel
theorem dX12_rule_102 : decode cX12_rule 102 = .ok (.iconst 1, 1) := by decide +kernel
theorem dX12_rule_103 : decode cX12_rule 103 = .ok (.iadd, 1) := by decide +kernel
theorem dX12_rule_104 : decode cX12_rule 104 = .ok (.iastore, 1) := by decide +kernel
theorem dX12_rule_105 : decode cX12_rule 105 = .ok (.aload_n 0, 1) := by decide +kernel
theorem dX12_rule_106 : decode cX12_rule 106 = .ok (.getfield 291, 3) := by decide +kernel
theorem dX12_rule_109 : decode cX12_rule 109 = .ok (.iload 6, 2) := by decide +kernel
theorem dX12_rule_111 : decode cX12_rule 111 = .ok (.iaload, 1) := by decide +kernel
theorem dX12_rule_112 : decode cX12_rule 112 = .ok (.ireturn, 1) := by decide +kernel
theorem dX12_drop_0 : decode cX12_drop 0 = .ok (.aload_n 0, 1) := by decide +kernel
theorem dX12_drop_1 : decode cX12_drop 1 = .ok (.iload_n 1, 1) := by decide +kernel
theorem dX12_drop_2 : decode cX12_drop 2 = .ok (.invokevirtual 760, 3) := by decide +kernel
theorem dX12_drop_5 : decode cX12_drop 5 = .ok (.istore_n 2, 1) := by decide +kernel
theorem dX12_drop_6 : decode cX12_drop 6 = .ok (.iload_n 2, 1) := by decide +kernel
theorem dX12_drop_7 : decode cX12_drop 7 = .ok (.ifCond .ge 5, 3) := by decide +kernel
theorem dX12_drop_10 : decode cX12_drop 10 = .ok (.iconst (-1), 1) := by decide +kernel
theorem dX12_drop_11 : decode cX12_drop 11 = .ok (.ireturn, 1) := by decide +kernel
theorem dX12_drop_12 : decode cX12_drop 12 = .ok (.aload_n 0, 1) := by decide +kernel
theorem dX12_drop_13 : decode cX12_drop 13 = .ok (.getfield 282, 3) := by decide +kernel
theorem dX12_drop_16 : decode cX12_drop 16 = .ok (.iload_n 2, 1) := by decide +kernel
theorem dX12_drop_17 : decode cX12_drop 17 = .ok (.iconst (-1), 1) := by decide +kernel
theorem dX12_drop_18 : decode cX12_drop 18 = .ok (.iastore, 1) := by decide +kernel
theorem dX12_drop_19 : decode cX12_drop 19 = .ok (.aload_n 0, 1) := by decide +kernel
theorem dX12_drop_20 : decode cX12_drop 20 = .ok (.getfield 291, 3) := by decide +kernel
theorem dX12_drop_23 : decode cX12_drop 23 = .ok (.iload_n 2, 1) := by decide +kernel
theorem dX12_drop_24 : decode cX12_drop 24 = .ok (.iaload, 1) := by decide +kernel
theorem dX12_drop_25 : decode cX12_drop 25 = .ok (.ireturn, 1) := by decide +kernel
theorem dX12_ruleFor_0 : decode cX12_ruleFor 0 = .ok (.bipush (-2), 2) := by decide +kernel
theorem dX12_ruleFor_2 : decode cX12_ruleFor 2 = .ok (.istore_n 3, 1) := by decide +kernel
theorem dX12_ruleFor_3 : decode cX12_ruleFor 3 = .ok (.iconst 0, 1) := by decide +kernel
theorem dX12_ruleFor_4 : decode cX12_ruleFor 4 = .ok (.istore 4, 2) := by decide +kernel
theorem dX12_ruleFor_6 : decode cX12_ruleFor 6 = .ok (.iload 4, 2) := by decide +kernel
theorem dX12_ruleFor_8 : decode cX12_ruleFor 8 = .ok (.aload_n 0, 1) := by decide +kernel
theorem dX12_ruleFor_9 : decode cX12_ruleFor 9 = .ok (.getfield 291, 3) := by decide +kernel
theorem dX12_ruleFor_12 : decode cX12_ruleFor 12 = .ok (.iload_n 1, 1) := by decide +kernel
theorem dX12_ruleFor_13 : decode cX12_ruleFor 13 = .ok (.iaload, 1) := by decide +kernel
theorem dX12_ruleFor_14 : decode cX12_ruleFor 14 = .ok (.if_icmp .ge 64, 3) := by decide +kernel
theorem dX12_ruleFor_17 : decode cX12_ruleFor 17 = .ok (.aload_n 0, 1) := by decide +kernel
theorem dX12_ruleFor_18 : decode cX12_ruleFor 18 = .ok (.getfield 294, 3) := by decide +kernel
theorem dX12_ruleFor_21 : decode cX12_ruleFor 21 = .ok (.bipush 8, 2) := by decide +kernel
theorem dX12_ruleFor_23 : decode cX12_ruleFor 23 = .ok (.iload_n 1, 1) := by decide +kernel
theorem dX12_ruleFor_24 : decode cX12_ruleFor 24 = .ok (.imul, 1) := by decide +kernel
theorem dX12_ruleFor_25 : decode cX12_ruleFor 25 = .ok (.iload 4, 2) := by decide +kernel
theorem dX12_ruleFor_27 : decode cX12_ruleFor 27 = .ok (.iadd, 1) := by decide +kernel
theorem dX12_ruleFor_28 : decode cX12_ruleFor 28 = .ok (.iaload, 1) := by decide +kernel
theorem dX12_ruleFor_29 : decode cX12_ruleFor 29 = .ok (.istore 5, 2) := by decide +kernel
theorem dX12_ruleFor_31 : decode cX12_ruleFor 31 = .ok (.iload 5, 2) := by decide +kernel
theorem dX12_ruleFor_33 : decode cX12_ruleFor 33 = .ok (.ifCond .lt 32, 3) := by decide +kernel
theorem dX12_ruleFor_36 : decode cX12_ruleFor 36 = .ok (.aload_n 0, 1) := by decide +kernel
theorem dX12_ruleFor_37 : decode cX12_ruleFor 37 = .ok (.getfield 230, 3) := by decide +kernel
theorem dX12_ruleFor_40 : decode cX12_ruleFor 40 = .ok (.aload_n 0, 1) := by decide +kernel
theorem dX12_ruleFor_41 : decode cX12_ruleFor 41 = .ok (.getfield 638, 3) := by decide +kernel
theorem dX12_ruleFor_44 : decode cX12_ruleFor 44 = .ok (.iload_n 2, 1) := by decide +kernel
theorem dX12_ruleFor_45 : decode cX12_ruleFor 45 = .ok (.isub, 1) := by decide +kernel
theorem dX12_ruleFor_46 : decode cX12_ruleFor 46 = .ok (.iload 5, 2) := by decide +kernel
theorem dX12_ruleFor_48 : decode cX12_ruleFor 48 = .ok (.iadd, 1) := by decide +kernel
theorem dX12_ruleFor_49 : decode cX12_ruleFor 49 = .ok (.iaload, 1) := by decide +kernel
theorem dX12_ruleFor_50 : decode cX12_ruleFor 50 = .ok (.aload_n 0, 1) := by decide +kernel
theorem dX12_ruleFor_51 : decode cX12_ruleFor 51 = .ok (.getfield 297, 3) := by decide +kernel
theorem dX12_ruleFor_54 : decode cX12_ruleFor 54 = .ok (.bipush 8, 2) := by decide +kernel
theorem dX12_ruleFor_56 : decode cX12_ruleFor 56 = .ok (.iload_n 1, 1) := by decide +kernel
theorem dX12_ruleFor_57 : decode cX12_ruleFor 57 = .ok (.imul, 1) := by decide +kernel
theorem dX12_ruleFor_58 : decode cX12_ruleFor 58 = .ok (.iload 4, 2) := by decide +kernel
theorem dX12_ruleFor_60 : decode cX12_ruleFor 60 = .ok (.iadd, 1) := by decide +kernel
theorem dX12_ruleFor_61 : decode cX12_ruleFor 61 = .ok (.iaload, 1) := by decide +kernel
theorem dX12_ruleFor_62 : decode cX12_ruleFor 62 = .ok (.if_icmp .ne 8, 3) := by decide +kernel
theorem dX12_ruleFor_65 : decode cX12_ruleFor 65 = .ok (.iload 4, 2) := by decide +kernel
theorem dX12_ruleFor_67 : decode cX12_ruleFor 67 = .ok (.goto 4, 3) := by decide +kernel
theorem dX12_ruleFor_70 : decode cX12_ruleFor 70 = .ok (.iload_n 3, 1) := by decide +kernel
theorem dX12_ruleFor_71 : decode cX12_ruleFor 71 = .ok (.istore_n 3, 1) := by decide +kernel
theorem dX12_ruleFor_72 : decode cX12_ruleFor 72 = .ok (.iinc 4 1, 3) := by decide +kernel
theorem dX12_ruleFor_75 : decode cX12_ruleFor 75 = .ok (.goto (-69), 3) := by decide +kernel
theorem dX12_ruleFor_78 : decode cX12_ruleFor 78 = .ok (.iload_n 3, 1) := by decide +kernel
theorem dX12_ruleFor_79 : decode cX12_ruleFor 79 = .ok (.ireturn, 1) := by decide +kernel
theorem dX12_listen_0 : decode cX12_listen 0 = .ok (.aload_n 0, 1) := by decide +kernel
theorem dX12_listen_1 : decode cX12_listen 1 = .ok (.iconst 1, 1) := by decide +kernel
theorem dX12_listen_2 : decode cX12_listen 2 = .ok (.putfield 711, 3) := by decide +kernel
theorem dX12_listen_5 : decode cX12_listen 5 = .ok (.iconst 0, 1) := by decide +kernel
theorem dX12_listen_6 : decode cX12_listen 6 = .ok (.istore_n 1, 1) := by decide +kernel
theorem dX12_listen_7 : decode cX12_listen 7 = .ok (.iload_n 1, 1) := by decide +kernel
theorem dX12_listen_8 : decode cX12_listen 8 = .ok (.bipush 8, 2) := by decide +kernel
theorem dX12_listen_10 : decode cX12_listen 10 = .ok (.if_icmp .ge 16, 3) := by decide +kernel
theorem dX12_listen_13 : decode cX12_listen 13 = .ok (.aload_n 0, 1) := by decide +kernel
theorem dX12_listen_14 : decode cX12_listen 14 = .ok (.getfield 306, 3) := by decide +kernel
theorem dX12_listen_17 : decode cX12_listen 17 = .ok (.iload_n 1, 1) := by decide +kernel
theorem dX12_listen_18 : decode cX12_listen 18 = .ok (.iconst 0, 1) := by decide +kernel
theorem dX12_listen_19 : decode cX12_listen 19 = .ok (.iastore, 1) := by decide +kernel
theorem dX12_listen_20 : decode cX12_listen 20 = .ok (.iinc 1 1, 3) := by decide +kernel
theorem dX12_listen_23 : decode cX12_listen 23 = .ok (.goto (-16), 3) := by decide +kernel
theorem dX12_listen_26 : decode cX12_listen 26 = .ok (.return_, 1) := by decide +kernel
theorem dX12_hear_0 : decode cX12_hear 0 = .ok (.aload_n 0, 1) := by decide +kernel
theorem dX12_hear_1 : decode cX12_hear 1 = .ok (.getfield 306, 3) := by decide +kernel
theorem dX12_hear_4 : decode cX12_hear 4 = .ok (.iload_n 1, 1) := by decide +kernel
theorem dX12_hear_5 : decode cX12_hear 5 = .ok (.iaload, 1) := by decide +kernel
theorem dX12_hear_6 : decode cX12_hear 6 = .ok (.istore 4, 2) := by decide +kernel
theorem dX12_hear_8 : decode cX12_hear 8 = .ok (.iload 4, 2) := by decide +kernel
theorem dX12_hear_10 : decode cX12_hear 10 = .ok (.bipush 50, 2) := by decide +kernel
theorem dX12_hear_12 : decode cX12_hear 12 = .ok (.if_icmp .ge 63, 3) := by decide +kernel
theorem dX12_hear_15 : decode cX12_hear 15 = .ok (.aload_n 0, 1) := by decide +kernel
theorem dX12_hear_16 : decode cX12_hear 16 = .ok (.getfield 309, 3) := by decide +kernel
theorem dX12_hear_19 : decode cX12_hear 19 = .ok (.bipush 50, 2) := by decide +kernel
theorem dX12_hear_21 : decode cX12_hear 21 = .ok (.iload_n 1, 1) := by decide +kernel
theorem dX12_hear_22 : decode cX12_hear 22 = .ok (.imul, 1) := by decide +kernel
theorem dX12_hear_23 : decode cX12_hear 23 = .ok (.iload 4, 2) := by decide +kernel
theorem dX12_hear_25 : decode cX12_hear 25 = .ok (.iadd, 1) := by decide +kernel
theorem dX12_hear_26 : decode cX12_hear 26 = .ok (.iload_n 3, 1) := by decide +kernel
theorem dX12_hear_27 : decode cX12_hear 27 = .ok (.iastore, 1) := by decide +kernel
theorem dX12_hear_28 : decode cX12_hear 28 = .ok (.iconst 0, 1) := by decide +kernel
theorem dX12_hear_29 : decode cX12_hear 29 = .ok (.istore 5, 2) := by decide +kernel
theorem dX12_hear_31 : decode cX12_hear 31 = .ok (.iload 5, 2) := by decide +kernel
theorem dX12_hear_33 : decode cX12_hear 33 = .ok (.iload_n 2, 1) := by decide +kernel
theorem dX12_hear_34 : decode cX12_hear 34 = .ok (.if_icmp .ge 41, 3) := by decide +kernel
theorem dX12_hear_37 : decode cX12_hear 37 = .ok (.aload_n 0, 1) := by decide +kernel
theorem dX12_hear_38 : decode cX12_hear 38 = .ok (.getfield 312, 3) := by decide +kernel
theorem dX12_hear_41 : decode cX12_hear 41 = .ok (.sipush 200, 3) := by decide +kernel
theorem dX12_hear_44 : decode cX12_hear 44 = .ok (.iload_n 1, 1) := by decide +kernel
theorem dX12_hear_45 : decode cX12_hear 45 = .ok (.imul, 1) := by decide +kernel
theorem dX12_hear_46 : decode cX12_hear 46 = .ok (.iconst 4, 1) := by decide +kernel
theorem dX12_hear_47 : decode cX12_hear 47 = .ok (.iload 4, 2) := by decide +kernel
theorem dX12_hear_49 : decode cX12_hear 49 = .ok (.imul, 1) := by decide +kernel
theorem dX12_hear_50 : decode cX12_hear 50 = .ok (.iadd, 1) := by decide +kernel
theorem dX12_hear_51 : decode cX12_hear 51 = .ok (.iload 5, 2) := by decide +kernel
theorem dX12_hear_53 : decode cX12_hear 53 = .ok (.iadd, 1) := by decide +kernel
theorem dX12_hear_54 : decode cX12_hear 54 = .ok (.aload_n 0, 1) := by decide +kernel
theorem dX12_hear_55 : decode cX12_hear 55 = .ok (.getfield 230, 3) := by decide +kernel
theorem dX12_hear_58 : decode cX12_hear 58 = .ok (.aload_n 0, 1) := by decide +kernel
theorem dX12_hear_59 : decode cX12_hear 59 = .ok (.getfield 638, 3) := by decide +kernel
theorem dX12_hear_62 : decode cX12_hear 62 = .ok (.iload_n 2, 1) := by decide +kernel
theorem dX12_hear_63 : decode cX12_hear 63 = .ok (.isub, 1) := by decide +kernel
theorem dX12_hear_64 : decode cX12_hear 64 = .ok (.iload 5, 2) := by decide +kernel
theorem dX12_hear_66 : decode cX12_hear 66 = .ok (.iadd, 1) := by decide +kernel
theorem dX12_hear_67 : decode cX12_hear 67 = .ok (.iaload, 1) := by decide +kernel
theorem dX12_hear_68 : decode cX12_hear 68 = .ok (.iastore, 1) := by decide +kernel
theorem dX12_hear_69 : decode cX12_hear 69 = .ok (.iinc 5 1, 3) := by decide +kernel
theorem dX12_hear_72 : decode cX12_hear 72 = .ok (.goto (-41), 3) := by decide +kernel
theorem dX12_hear_75 : decode cX12_hear 75 = .ok (.aload_n 0, 1) := by decide +kernel
theorem dX12_hear_76 : decode cX12_hear 76 = .ok (.getfield 306, 3) := by decide +kernel
theorem dX12_hear_79 : decode cX12_hear 79 = .ok (.iload_n 1, 1) := by decide +kernel
theorem dX12_hear_80 : decode cX12_hear 80 = .ok (.dup2, 1) := by decide +kernel
theorem dX12_hear_81 : decode cX12_hear 81 = .ok (.iaload, 1) := by decide +kernel
theorem dX12_hear_82 : decode cX12_hear 82 = .ok (.iconst 1, 1) := by decide +kernel
theorem dX12_hear_83 : decode cX12_hear 83 = .ok (.iadd, 1) := by decide +kernel
theorem dX12_hear_84 : decode cX12_hear 84 = .ok (.iastore, 1) := by decide +kernel
theorem dX12_hear_85 : decode cX12_hear 85 = .ok (.return_, 1) := by decide +kernel
theorem dX12_calls_0 : decode cX12_calls 0 = .ok (.aload_n 0, 1) := by decide +kernel
theorem dX12_calls_1 : decode cX12_calls 1 = .ok (.iload_n 1, 1) := by decide +kernel
theorem dX12_calls_2 : decode cX12_calls 2 = .ok (.invokevirtual 760, 3) := by decide +kernel
theorem dX12_calls_5 : decode cX12_calls 5 = .ok (.istore 4, 2) := by decide +kernel
theorem dX12_calls_7 : decode cX12_calls 7 = .ok (.iload 4, 2) := by decide +kernel
theorem dX12_calls_9 : decode cX12_calls 9 = .ok (.ifCond .lt 8, 3) := by decide +kernel
theorem dX12_calls_12 : decode cX12_calls 12 = .ok (.iload_n 2, 1) := by decide +kernel
theorem dX12_calls_13 : decode cX12_calls 13 = .ok (.iconst (-1), 1) := by decide +kernel
theorem dX12_calls_14 : decode cX12_calls 14 = .ok (.if_icmp .ge 5, 3) := by decide +kernel
theorem dX12_calls_17 : decode cX12_calls 17 = .ok (.iconst (-1), 1) := by decide +kernel
theorem dX12_calls_18 : decode cX12_calls 18 = .ok (.ireturn, 1) := by decide +kernel
theorem dX12_calls_19 : decode cX12_calls 19 = .ok (.iload_n 2, 1) := by decide +kernel
theorem dX12_calls_20 : decode cX12_calls 20 = .ok (.iconst (-1), 1) := by decide +kernel
theorem dX12_calls_21 : decode cX12_calls 21 = .ok (.if_icmp .ne 11, 3) := by decide +kernel
theorem dX12_calls_24 : decode cX12_calls 24 = .ok (.aload_n 0, 1) := by decide +kernel
theorem dX12_calls_25 : decode cX12_calls 25 = .ok (.getfield 306, 3) := by decide +kernel
theorem dX12_calls_28 : decode cX12_calls 28 = .ok (.iload 4, 2) := by decide +kernel
theorem dX12_calls_30 : decode cX12_calls 30 = .ok (.iaload, 1) := by decide +kernel
theorem dX12_calls_31 : decode cX12_calls 31 = .ok (.ireturn, 1) := by decide +kernel
theorem dX12_calls_32 : decode cX12_calls 32 = .ok (.iload_n 2, 1) := by decide +kernel
theorem dX12_calls_33 : decode cX12_calls 33 = .ok (.aload_n 0, 1) := by decide +kernel
theorem dX12_calls_34 : decode cX12_calls 34 = .ok (.getfield 306, 3) := by decide +kernel
theorem dX12_calls_37 : decode cX12_calls 37 = .ok (.iload 4, 2) := by decide +kernel
theorem dX12_calls_39 : decode cX12_calls 39 = .ok (.iaload, 1) := by decide +kernel
theorem dX12_calls_40 : decode cX12_calls 40 = .ok (.if_icmp .ge 25, 3) := by decide +kernel
theorem dX12_calls_43 : decode cX12_calls 43 = .ok (.iload_n 2, 1) := by decide +kernel
theorem dX12_calls_44 : decode cX12_calls 44 = .ok (.bipush 50, 2) := by decide +kernel
theorem dX12_calls_46 : decode cX12_calls 46 = .ok (.if_icmp .ge 19, 3) := by decide +kernel
theorem dX12_calls_49 : decode cX12_calls 49 = .ok (.iload_n 3, 1) := by decide +kernel
theorem dX12_calls_50 : decode cX12_calls 50 = .ok (.iconst (-1), 1) := by decide +kernel
theorem dX12_calls_51 : decode cX12_calls 51 = .ok (.aload_n 0, 1) := by decide +kernel
theorem dX12_calls_52 : decode cX12_calls 52 = .ok (.iload 4, 2) := by decide +kernel
theorem dX12_calls_54 : decode cX12_calls 54 = .ok (.invokevirtual 763, 3) := by decide +kernel
theorem dX12_calls_57 : decode cX12_calls 57 = .ok (.iconst 1, 1) := by decide +kernel
theorem dX12_calls_58 : decode cX12_calls 58 = .ok (.isub, 1) := by decide +kernel
theorem dX12_calls_59 : decode cX12_calls 59 = .ok (.invokestatic 381, 3) := by decide +kernel
theorem dX12_calls_62 : decode cX12_calls 62 = .ok (.ifCond .ne 5, 3) := by decide +kernel
theorem dX12_calls_65 : decode cX12_calls 65 = .ok (.iconst (-1), 1) := by decide +kernel
theorem dX12_calls_66 : decode cX12_calls 66 = .ok (.ireturn, 1) := by decide +kernel
theorem dX12_calls_67 : decode cX12_calls 67 = .ok (.iload_n 3, 1) := by decide +kernel
theorem dX12_calls_68 : decode cX12_calls 68 = .ok (.ifCond .ge 18, 3) := by decide +kernel
theorem dX12_calls_71 : decode cX12_calls 71 = .ok (.aload_n 0, 1) := by decide +kernel
theorem dX12_calls_72 : decode cX12_calls 72 = .ok (.getfield 309, 3) := by decide +kernel
theorem dX12_calls_75 : decode cX12_calls 75 = .ok (.bipush 50, 2) := by decide +kernel
theorem dX12_calls_77 : decode cX12_calls 77 = .ok (.iload 4, 2) := by decide +kernel
theorem dX12_calls_79 : decode cX12_calls 79 = .ok (.imul, 1) := by decide +kernel
theorem dX12_calls_80 : decode cX12_calls 80 = .ok (.iload_n 2, 1) := by decide +kernel
theorem dX12_calls_81 : decode cX12_calls 81 = .ok (.iadd, 1) := by decide +kernel
theorem dX12_calls_82 : decode cX12_calls 82 = .ok (.iaload, 1) := by decide +kernel
theorem dX12_calls_83 : decode cX12_calls 83 = .ok (.goto 20, 3) := by decide +kernel
theorem dX12_calls_86 : decode cX12_calls 86 = .ok (.aload_n 0, 1) := by decide +kernel
theorem dX12_calls_87 : decode cX12_calls 87 = .ok (.getfield 312, 3) := by decide +kernel
theorem dX12_calls_90 : decode cX12_calls 90 = .ok (.sipush 200, 3) := by decide +kernel
theorem dX12_calls_93 : decode cX12_calls 93 = .ok (.iload 4, 2) := by decide +kernel
theorem dX12_calls_95 : decode cX12_calls 95 = .ok (.imul, 1) := by decide +kernel
theorem dX12_calls_96 : decode cX12_calls 96 = .ok (.iconst 4, 1) := by decide +kernel
theorem dX12_calls_97 : decode cX12_calls 97 = .ok (.iload_n 2, 1) := by decide +kernel
theorem dX12_calls_98 : decode cX12_calls 98 = .ok (.imul, 1) := by decide +kernel
theorem dX12_calls_99 : decode cX12_calls 99 = .ok (.iadd, 1) := by decide +kernel
theorem dX12_calls_100 : decode cX12_calls 100 = .ok (.iload_n 3, 1) := by decide +kernel
theorem dX12_calls_101 : decode cX12_calls 101 = .ok (.iadd, 1) := by decide +kernel
theorem dX12_calls_102 : decode cX12_calls 102 = .ok (.iaload, 1) := by decide +kernel
theorem dX12_calls_103 : decode cX12_calls 103 = .ok (.ireturn, 1) := by decide +kernel
theorem dX12_mutant_0 : decode cX12_mutant 0 = .ok (.aload_n 0, 1) := by decide +kernel
theorem dX12_mutant_1 : decode cX12_mutant 1 = .ok (.iload_n 1, 1) := by decide +kernel
theorem dX12_mutant_2 : decode cX12_mutant 2 = .ok (.invokevirtual 735, 3) := by decide +kernel
theorem dX12_mutant_5 : decode cX12_mutant 5 = .ok (.ifCond .eq 28, 3) := by decide +kernel
theorem dX12_mutant_8 : decode cX12_mutant 8 = .ok (.iload_n 2, 1) := by decide +kernel
theorem dX12_mutant_9 : decode cX12_mutant 9 = .ok (.iconst 0, 1) := by decide +kernel
theorem dX12_mutant_10 : decode cX12_mutant 10 = .ok (.aload_n 0, 1) := by decide +kernel
theorem dX12_mutant_11 : decode cX12_mutant 11 = .ok (.getfield 106, 3) := by decide +kernel
theorem dX12_mutant_14 : decode cX12_mutant 14 = .ok (.iload_n 1, 1) := by decide +kernel
theorem dX12_mutant_15 : decode cX12_mutant 15 = .ok (.iaload, 1) := by decide +kernel
theorem dX12_mutant_16 : decode cX12_mutant 16 = .ok (.iconst 1, 1) := by decide +kernel
theorem dX12_mutant_17 : decode cX12_mutant 17 = .ok (.isub, 1) := by decide +kernel
theorem dX12_mutant_18 : decode cX12_mutant 18 = .ok (.invokestatic 381, 3) := by decide +kernel
theorem dX12_mutant_21 : decode cX12_mutant 21 = .ok (.ifCond .eq 12, 3) := by decide +kernel
theorem dX12_mutant_24 : decode cX12_mutant 24 = .ok (.iload_n 3, 1) := by decide +kernel
theorem dX12_mutant_25 : decode cX12_mutant 25 = .ok (.iconst 0, 1) := by decide +kernel
theorem dX12_mutant_26 : decode cX12_mutant 26 = .ok (.iconst 2, 1) := by decide +kernel
theorem dX12_mutant_27 : decode cX12_mutant 27 = .ok (.invokestatic 381, 3) := by decide +kernel
theorem dX12_mutant_30 : decode cX12_mutant 30 = .ok (.ifCond .ne 5, 3) := by decide +kernel
theorem dX12_mutant_33 : decode cX12_mutant 33 = .ok (.iconst (-1), 1) := by decide +kernel
theorem dX12_mutant_34 : decode cX12_mutant 34 = .ok (.ireturn, 1) := by decide +kernel
theorem dX12_mutant_35 : decode cX12_mutant 35 = .ok (.aload_n 0, 1) := by decide +kernel
theorem dX12_mutant_36 : decode cX12_mutant 36 = .ok (.getfield 109, 3) := by decide +kernel
theorem dX12_mutant_39 : decode cX12_mutant 39 = .ok (.sipush 1000, 3) := by decide +kernel
theorem dX12_mutant_42 : decode cX12_mutant 42 = .ok (.iload_n 1, 1) := by decide +kernel
theorem dX12_mutant_43 : decode cX12_mutant 43 = .ok (.imul, 1) := by decide +kernel
theorem dX12_mutant_44 : decode cX12_mutant 44 = .ok (.iload_n 2, 1) := by decide +kernel
theorem dX12_mutant_45 : decode cX12_mutant 45 = .ok (.iadd, 1) := by decide +kernel
theorem dX12_mutant_46 : decode cX12_mutant 46 = .ok (.saload, 1) := by decide +kernel
theorem dX12_mutant_47 : decode cX12_mutant 47 = .ok (.istore 4, 2) := by decide +kernel
theorem dX12_mutant_49 : decode cX12_mutant 49 = .ok (.iload_n 3, 1) := by decide +kernel
theorem dX12_mutant_50 : decode cX12_mutant 50 = .ok (.ifCond .ne 8, 3) := by decide +kernel
theorem dX12_mutant_53 : decode cX12_mutant 53 = .ok (.iload 4, 2) := by decide +kernel
theorem dX12_mutant_55 : decode cX12_mutant 55 = .ok (.goto 56, 3) := by decide +kernel
theorem dX12_mutant_58 : decode cX12_mutant 58 = .ok (.iload_n 3, 1) := by decide +kernel
theorem dX12_mutant_59 : decode cX12_mutant 59 = .ok (.iconst 1, 1) := by decide +kernel
theorem dX12_mutant_60 : decode cX12_mutant 60 = .ok (.if_icmp .ne 22, 3) := by decide +kernel
theorem dX12_mutant_63 : decode cX12_mutant 63 = .ok (.aload_n 0, 1) := by decide +kernel
theorem dX12_mutant_64 : decode cX12_mutant 64 = .ok (.getfield 97, 3) := by decide +kernel
theorem dX12_mutant_67 : decode cX12_mutant 67 = .ok (.sipush 1000, 3) := by decide +kernel
theorem dX12_mutant_70 : decode cX12_mutant 70 = .ok (.iload_n 1, 1) := by decide +kernel
theorem dX12_mutant_71 : decode cX12_mutant 71 = .ok (.imul, 1) := by decide +kernel
theorem dX12_mutant_72 : decode cX12_mutant 72 = .ok (.iload 4, 2) := by decide +kernel
theorem dX12_mutant_74 : decode cX12_mutant 74 = .ok (.iadd, 1) := by decide +kernel
theorem dX12_mutant_75 : decode cX12_mutant 75 = .ok (.baload, 1) := by decide +kernel
theorem dX12_mutant_76 : decode cX12_mutant 76 = .ok (.invokestatic 597, 3) := by decide +kernel
theorem dX12_mutant_79 : decode cX12_mutant 79 = .ok (.goto 32, 3) := by decide +kernel
theorem dX12_mutant_82 : decode cX12_mutant 82 = .ok (.aload_n 0, 1) := by decide +kernel
theorem dX12_mutant_83 : decode cX12_mutant 83 = .ok (.getfield 315, 3) := by decide +kernel
theorem dX12_mutant_86 : decode cX12_mutant 86 = .ok (.iload_n 1, 1) := by decide +kernel
theorem dX12_mutant_87 : decode cX12_mutant 87 = .ok (.baload, 1) := by decide +kernel
theorem dX12_mutant_88 : decode cX12_mutant 88 = .ok (.ifCond .eq 21, 3) := by decide +kernel
theorem dX12_mutant_91 : decode cX12_mutant 91 = .ok (.aload_n 0, 1) := by decide +kernel
theorem dX12_mutant_92 : decode cX12_mutant 92 = .ok (.getfield 318, 3) := by decide +kernel
theorem dX12_mutant_95 : decode cX12_mutant 95 = .ok (.sipush 1000, 3) := by decide +kernel
theorem dX12_mutant_98 : decode cX12_mutant 98 = .ok (.iload_n 1, 1) := by decide +kernel
theorem dX12_mutant_99 : decode cX12_mutant 99 = .ok (.imul, 1) := by decide +kernel
theorem dX12_mutant_100 : decode cX12_mutant 100 = .ok (.iload_n 2, 1) := by decide +kernel
theorem dX12_mutant_101 : decode cX12_mutant 101 = .ok (.iadd, 1) := by decide +kernel
theorem dX12_mutant_102 : decode cX12_mutant 102 = .ok (.iaload, 1) := by decide +kernel
theorem dX12_mutant_103 : decode cX12_mutant 103 = .ok (.invokestatic 766, 3) := by decide +kernel
theorem dX12_mutant_106 : decode cX12_mutant 106 = .ok (.goto 5, 3) := by decide +kernel
theorem dX12_mutant_109 : decode cX12_mutant 109 = .ok (.bipush (-2), 2) := by decide +kernel
theorem dX12_mutant_111 : decode cX12_mutant 111 = .ok (.ireturn, 1) := by decide +kernel
theorem dX12_runWith_0 : decode cX12_runWith 0 = .ok (.aload_n 0, 1) := by decide +kernel
theorem dX12_runWith_1 : decode cX12_runWith 1 = .ok (.iload_n 2, 1) := by decide +kernel
theorem dX12_runWith_2 : decode cX12_runWith 2 = .ok (.putfield 246, 3) := by decide +kernel
theorem dX12_runWith_5 : decode cX12_runWith 5 = .ok (.aload_n 0, 1) := by decide +kernel
theorem dX12_runWith_6 : decode cX12_runWith 6 = .ok (.iload_n 1, 1) := by decide +kernel
theorem dX12_runWith_7 : decode cX12_runWith 7 = .ok (.iconst (-1), 1) := by decide +kernel
theorem dX12_runWith_8 : decode cX12_runWith 8 = .ok (.invokevirtual 738, 3) := by decide +kernel
theorem dX12_runWith_11 : decode cX12_runWith 11 = .ok (.iconst 0, 1) := by decide +kernel
theorem dX12_runWith_12 : decode cX12_runWith 12 = .ok (.istore_n 3, 1) := by decide +kernel
theorem dX12_runWith_13 : decode cX12_runWith 13 = .ok (.iconst 0, 1) := by decide +kernel
theorem dX12_runWith_14 : decode cX12_runWith 14 = .ok (.istore 4, 2) := by decide +kernel
theorem dX12_runWith_16 : decode cX12_runWith 16 = .ok (.iload 4, 2) := by decide +kernel
theorem dX12_runWith_18 : decode cX12_runWith 18 = .ok (.aload_n 0, 1) := by decide +kernel
theorem dX12_runWith_19 : decode cX12_runWith 19 = .ok (.getfield 58, 3) := by decide +kernel
theorem dX12_runWith_22 : decode cX12_runWith 22 = .ok (.iload_n 1, 1) := by decide +kernel
theorem dX12_runWith_23 : decode cX12_runWith 23 = .ok (.iaload, 1) := by decide +kernel
theorem dX12_runWith_24 : decode cX12_runWith 24 = .ok (.if_icmp .ge 100, 3) := by decide +kernel
theorem dX12_runWith_27 : decode cX12_runWith 27 = .ok (.aload_n 0, 1) := by decide +kernel
theorem dX12_runWith_28 : decode cX12_runWith 28 = .ok (.getfield 647, 3) := by decide +kernel
theorem dX12_runWith_31 : decode cX12_runWith 31 = .ok (.ifCond .ne 93, 3) := by decide +kernel
theorem dX12_runWith_34 : decode cX12_runWith 34 = .ok (.aload_n 0, 1) := by decide +kernel
theorem dX12_runWith_35 : decode cX12_runWith 35 = .ok (.getfield 79, 3) := by decide +kernel
theorem dX12_runWith_38 : decode cX12_runWith 38 = .ok (.bipush 16, 2) := by decide +kernel
theorem dX12_runWith_40 : decode cX12_runWith 40 = .ok (.iload_n 1, 1) := by decide +kernel
theorem dX12_runWith_41 : decode cX12_runWith 41 = .ok (.imul, 1) := by decide +kernel
theorem dX12_runWith_42 : decode cX12_runWith 42 = .ok (.iload 4, 2) := by decide +kernel
theorem dX12_runWith_44 : decode cX12_runWith 44 = .ok (.iadd, 1) := by decide +kernel
theorem dX12_runWith_45 : decode cX12_runWith 45 = .ok (.iaload, 1) := by decide +kernel
theorem dX12_runWith_46 : decode cX12_runWith 46 = .ok (.istore 5, 2) := by decide +kernel
theorem dX12_runWith_48 : decode cX12_runWith 48 = .ok (.aload_n 0, 1) := by decide +kernel
theorem dX12_runWith_49 : decode cX12_runWith 49 = .ok (.iload 5, 2) := by decide +kernel
theorem dX12_runWith_51 : decode cX12_runWith 51 = .ok (.invokevirtual 744, 3) := by decide +kernel
theorem dX12_runWith_54 : decode cX12_runWith 54 = .ok (.iload_n 2, 1) := by decide +kernel
theorem dX12_runWith_55 : decode cX12_runWith 55 = .ok (.ifCond .ge 28, 3) := by decide +kernel
theorem dX12_runWith_58 : decode cX12_runWith 58 = .ok (.aload_n 0, 1) := by decide +kernel
theorem dX12_runWith_59 : decode cX12_runWith 59 = .ok (.getfield 327, 3) := by decide +kernel
theorem dX12_runWith_62 : decode cX12_runWith 62 = .ok (.iload 5, 2) := by decide +kernel
theorem dX12_runWith_64 : decode cX12_runWith 64 = .ok (.aload_n 0, 1) := by decide +kernel
theorem dX12_runWith_65 : decode cX12_runWith 65 = .ok (.getfield 717, 3) := by decide +kernel
theorem dX12_runWith_68 : decode cX12_runWith 68 = .ok (.iastore, 1) := by decide +kernel
theorem dX12_runWith_69 : decode cX12_runWith 69 = .ok (.aload_n 0, 1) := by decide +kernel
theorem dX12_runWith_70 : decode cX12_runWith 70 = .ok (.getfield 330, 3) := by decide +kernel
theorem dX12_runWith_73 : decode cX12_runWith 73 = .ok (.iload 5, 2) := by decide +kernel
theorem dX12_runWith_75 : decode cX12_runWith 75 = .ok (.aload_n 0, 1) := by decide +kernel
theorem dX12_runWith_76 : decode cX12_runWith 76 = .ok (.getfield 720, 3) := by decide +kernel
theorem dX12_runWith_79 : decode cX12_runWith 79 = .ok (.iastore, 1) := by decide +kernel
theorem dX12_runWith_80 : decode cX12_runWith 80 = .ok (.goto 38, 3) := by decide +kernel
theorem dX12_runWith_83 : decode cX12_runWith 83 = .ok (.aload_n 0, 1) := by decide +kernel
theorem dX12_runWith_84 : decode cX12_runWith 84 = .ok (.getfield 327, 3) := by decide +kernel
theorem dX12_runWith_87 : decode cX12_runWith 87 = .ok (.iload 5, 2) := by decide +kernel
theorem dX12_runWith_89 : decode cX12_runWith 89 = .ok (.iaload, 1) := by decide +kernel
theorem dX12_runWith_90 : decode cX12_runWith 90 = .ok (.aload_n 0, 1) := by decide +kernel
theorem dX12_runWith_91 : decode cX12_runWith 91 = .ok (.getfield 717, 3) := by decide +kernel
theorem dX12_runWith_94 : decode cX12_runWith 94 = .ok (.if_icmp .ne 17, 3) := by decide +kernel
theorem dX12_runWith_97 : decode cX12_runWith 97 = .ok (.aload_n 0, 1) := by decide +kernel
theorem dX12_runWith_98 : decode cX12_runWith 98 = .ok (.getfield 330, 3) := by decide +kernel
theorem dX12_runWith_101 : decode cX12_runWith 101 = .ok (.iload 5, 2) := by decide +kernel
theorem dX12_runWith_103 : decode cX12_runWith 103 = .ok (.iaload, 1) := by decide +kernel
theorem dX12_runWith_104 : decode cX12_runWith 104 = .ok (.aload_n 0, 1) := by decide +kernel
theorem dX12_runWith_105 : decode cX12_runWith 105 = .ok (.getfield 720, 3) := by decide +kernel
theorem dX12_runWith_108 : decode cX12_runWith 108 = .ok (.if_icmp .eq 10, 3) := by decide +kernel
theorem dX12_runWith_111 : decode cX12_runWith 111 = .ok (.iload_n 3, 1) := by decide +kernel
theorem dX12_runWith_112 : decode cX12_runWith 112 = .ok (.iconst 1, 1) := by decide +kernel
theorem dX12_runWith_113 : decode cX12_runWith 113 = .ok (.iload 5, 2) := by decide +kernel
theorem dX12_runWith_115 : decode cX12_runWith 115 = .ok (.ishl, 1) := by decide +kernel
theorem dX12_runWith_116 : decode cX12_runWith 116 = .ok (.ior, 1) := by decide +kernel
theorem dX12_runWith_117 : decode cX12_runWith 117 = .ok (.istore_n 3, 1) := by decide +kernel
theorem dX12_runWith_118 : decode cX12_runWith 118 = .ok (.iinc 4 1, 3) := by decide +kernel
theorem dX12_runWith_121 : decode cX12_runWith 121 = .ok (.goto (-105), 3) := by decide +kernel
theorem dX12_runWith_124 : decode cX12_runWith 124 = .ok (.aload_n 0, 1) := by decide +kernel
theorem dX12_runWith_125 : decode cX12_runWith 125 = .ok (.iconst (-1), 1) := by decide +kernel
theorem dX12_runWith_126 : decode cX12_runWith 126 = .ok (.putfield 246, 3) := by decide +kernel
theorem dX12_runWith_129 : decode cX12_runWith 129 = .ok (.aload_n 0, 1) := by decide +kernel
theorem dX12_runWith_130 : decode cX12_runWith 130 = .ok (.getfield 647, 3) := by decide +kernel
theorem dX12_runWith_133 : decode cX12_runWith 133 = .ok (.ifCond .eq 7, 3) := by decide +kernel
theorem dX12_runWith_136 : decode cX12_runWith 136 = .ok (.iconst (-1), 1) := by decide +kernel
theorem dX12_runWith_137 : decode cX12_runWith 137 = .ok (.goto 4, 3) := by decide +kernel
theorem dX12_runWith_140 : decode cX12_runWith 140 = .ok (.iload_n 3, 1) := by decide +kernel
theorem dX12_runWith_141 : decode cX12_runWith 141 = .ok (.ireturn, 1) := by decide +kernel
theorem dX12_kill_0 : decode cX12_kill 0 = .ok (.aload_n 0, 1) := by decide +kernel
theorem dX12_kill_1 : decode cX12_kill 1 = .ok (.iload_n 1, 1) := by decide +kernel
theorem dX12_kill_2 : decode cX12_kill 2 = .ok (.invokevirtual 735, 3) := by decide +kernel
theorem dX12_kill_5 : decode cX12_kill 5 = .ok (.ifCond .ne 5, 3) := by decide +kernel
theorem dX12_kill_8 : decode cX12_kill 8 = .ok (.iconst (-1), 1) := by decide +kernel
theorem dX12_kill_9 : decode cX12_kill 9 = .ok (.ireturn, 1) := by decide +kernel
theorem dX12_kill_10 : decode cX12_kill 10 = .ok (.aload_n 0, 1) := by decide +kernel
theorem dX12_kill_11 : decode cX12_kill 11 = .ok (.ldc_w 771, 3) := by decide +kernel
theorem dX12_kill_14 : decode cX12_kill 14 = .ok (.putfield 644, 3) := by decide +kernel
theorem dX12_kill_17 : decode cX12_kill 17 = .ok (.aload_n 0, 1) := by decide +kernel
theorem dX12_kill_18 : decode cX12_kill 18 = .ok (.iconst 0, 1) := by decide +kernel
theorem dX12_kill_19 : decode cX12_kill 19 = .ok (.putfield 647, 3) := by decide +kernel
theorem dX12_kill_22 : decode cX12_kill 22 = .ok (.aload_n 0, 1) := by decide +kernel
theorem dX12_kill_23 : decode cX12_kill 23 = .ok (.iload_n 1, 1) := by decide +kernel
theorem dX12_kill_24 : decode cX12_kill 24 = .ok (.iconst (-1), 1) := by decide +kernel
theorem dX12_kill_25 : decode cX12_kill 25 = .ok (.invokevirtual 772, 3) := by decide +kernel
theorem dX12_kill_28 : decode cX12_kill 28 = .ok (.istore_n 2, 1) := by decide +kernel
theorem dX12_kill_29 : decode cX12_kill 29 = .ok (.iconst 0, 1) := by decide +kernel
theorem dX12_kill_30 : decode cX12_kill 30 = .ok (.istore_n 3, 1) := by decide +kernel
theorem dX12_kill_31 : decode cX12_kill 31 = .ok (.iload_n 3, 1) := by decide +kernel
theorem dX12_kill_32 : decode cX12_kill 32 = .ok (.aload_n 0, 1) := by decide +kernel
theorem dX12_kill_33 : decode cX12_kill 33 = .ok (.getfield 106, 3) := by decide +kernel
theorem dX12_kill_36 : decode cX12_kill 36 = .ok (.iload_n 1, 1) := by decide +kernel
theorem dX12_kill_37 : decode cX12_kill 37 = .ok (.iaload, 1) := by decide +kernel
theorem dX12_kill_38 : decode cX12_kill 38 = .ok (.if_icmp .ge 38, 3) := by decide +kernel
theorem dX12_kill_41 : decode cX12_kill 41 = .ok (.iload_n 2, 1) := by decide +kernel
theorem dX12_kill_42 : decode cX12_kill 42 = .ok (.ifCond .lt 34, 3) := by decide +kernel
theorem dX12_kill_45 : decode cX12_kill 45 = .ok (.aload_n 0, 1) := by decide +kernel
theorem dX12_kill_46 : decode cX12_kill 46 = .ok (.iload_n 1, 1) := by decide +kernel
theorem dX12_kill_47 : decode cX12_kill 47 = .ok (.aload_n 0, 1) := by decide +kernel
theorem dX12_kill_48 : decode cX12_kill 48 = .ok (.getfield 109, 3) := by decide +kernel
theorem dX12_kill_51 : decode cX12_kill 51 = .ok (.sipush 1000, 3) := by decide +kernel
theorem dX12_kill_54 : decode cX12_kill 54 = .ok (.iload_n 1, 1) := by decide +kernel
theorem dX12_kill_55 : decode cX12_kill 55 = .ok (.imul, 1) := by decide +kernel
theorem dX12_kill_56 : decode cX12_kill 56 = .ok (.iload_n 3, 1) := by decide +kernel
theorem dX12_kill_57 : decode cX12_kill 57 = .ok (.iadd, 1) := by decide +kernel
theorem dX12_kill_58 : decode cX12_kill 58 = .ok (.saload, 1) := by decide +kernel
theorem dX12_kill_59 : decode cX12_kill 59 = .ok (.invokevirtual 772, 3) := by decide +kernel
theorem dX12_kill_62 : decode cX12_kill 62 = .ok (.istore_n 2, 1) := by decide +kernel
theorem dX12_kill_63 : decode cX12_kill 63 = .ok (.aload_n 0, 1) := by decide +kernel
theorem dX12_kill_64 : decode cX12_kill 64 = .ok (.getfield 321, 3) := by decide +kernel
theorem dX12_kill_67 : decode cX12_kill 67 = .ok (.iload_n 3, 1) := by decide +kernel
theorem dX12_kill_68 : decode cX12_kill 68 = .ok (.iload_n 2, 1) := by decide +kernel
theorem dX12_kill_69 : decode cX12_kill 69 = .ok (.iastore, 1) := by decide +kernel
theorem dX12_kill_70 : decode cX12_kill 70 = .ok (.iinc 3 1, 3) := by decide +kernel
theorem dX12_kill_73 : decode cX12_kill 73 = .ok (.goto (-42), 3) := by decide +kernel
theorem dX12_kill_76 : decode cX12_kill 76 = .ok (.aload_n 0, 1) := by decide +kernel
theorem dX12_kill_77 : decode cX12_kill 77 = .ok (.getfield 647, 3) := by decide +kernel
theorem dX12_kill_80 : decode cX12_kill 80 = .ok (.ifCond .eq 11, 3) := by decide +kernel
theorem dX12_kill_83 : decode cX12_kill 83 = .ok (.aload_n 0, 1) := by decide +kernel
theorem dX12_kill_84 : decode cX12_kill 84 = .ok (.iconst 0, 1) := by decide +kernel
theorem dX12_kill_85 : decode cX12_kill 85 = .ok (.putfield 647, 3) := by decide +kernel
theorem dX12_kill_88 : decode cX12_kill 88 = .ok (.bipush (-4), 2) := by decide +kernel
theorem dX12_kill_90 : decode cX12_kill 90 = .ok (.ireturn, 1) := by decide +kernel
theorem dX12_kill_91 : decode cX12_kill 91 = .ok (.iconst 0, 1) := by decide +kernel
theorem dX12_kill_92 : decode cX12_kill 92 = .ok (.istore_n 3, 1) := by decide +kernel
theorem dX12_kill_93 : decode cX12_kill 93 = .ok (.iconst 0, 1) := by decide +kernel
theorem dX12_kill_94 : decode cX12_kill 94 = .ok (.istore 4, 2) := by decide +kernel
theorem dX12_kill_96 : decode cX12_kill 96 = .ok (.iload 4, 2) := by decide +kernel
theorem dX12_kill_98 : decode cX12_kill 98 = .ok (.aload_n 0, 1) := by decide +kernel
theorem dX12_kill_99 : decode cX12_kill 99 = .ok (.getfield 106, 3) := by decide +kernel
theorem dX12_kill_102 : decode cX12_kill 102 = .ok (.iload_n 1, 1) := by decide +kernel
theorem dX12_kill_103 : decode cX12_kill 103 = .ok (.iaload, 1) := by decide +kernel
theorem dX12_kill_104 : decode cX12_kill 104 = .ok (.if_icmp .ge 47, 3) := by decide +kernel
theorem dX12_kill_107 : decode cX12_kill 107 = .ok (.aload_n 0, 1) := by decide +kernel
theorem dX12_kill_108 : decode cX12_kill 108 = .ok (.getfield 318, 3) := by decide +kernel
theorem dX12_kill_111 : decode cX12_kill 111 = .ok (.sipush 1000, 3) := by decide +kernel
theorem dX12_kill_114 : decode cX12_kill 114 = .ok (.iload_n 1, 1) := by decide +kernel
theorem dX12_kill_115 : decode cX12_kill 115 = .ok (.imul, 1) := by decide +kernel
theorem dX12_kill_116 : decode cX12_kill 116 = .ok (.iload 4, 2) := by decide +kernel
theorem dX12_kill_118 : decode cX12_kill 118 = .ok (.iadd, 1) := by decide +kernel
theorem dX12_kill_119 : decode cX12_kill 119 = .ok (.aload_n 0, 1) := by decide +kernel
theorem dX12_kill_120 : decode cX12_kill 120 = .ok (.getfield 321, 3) := by decide +kernel
theorem dX12_kill_123 : decode cX12_kill 123 = .ok (.iload 4, 2) := by decide +kernel
theorem dX12_kill_125 : decode cX12_kill 125 = .ok (.iaload, 1) := by decide +kernel
theorem dX12_kill_126 : decode cX12_kill 126 = .ok (.iastore, 1) := by decide +kernel
theorem dX12_kill_127 : decode cX12_kill 127 = .ok (.iload_n 3, 1) := by decide +kernel
theorem dX12_kill_128 : decode cX12_kill 128 = .ok (.aload_n 0, 1) := by decide +kernel
theorem dX12_kill_129 : decode cX12_kill 129 = .ok (.getfield 321, 3) := by decide +kernel
theorem dX12_kill_132 : decode cX12_kill 132 = .ok (.iload 4, 2) := by decide +kernel
theorem dX12_kill_134 : decode cX12_kill 134 = .ok (.iaload, 1) := by decide +kernel
theorem dX12_kill_135 : decode cX12_kill 135 = .ok (.ifCond .eq 7, 3) := by decide +kernel
theorem dX12_kill_138 : decode cX12_kill 138 = .ok (.iconst 1, 1) := by decide +kernel
theorem dX12_kill_139 : decode cX12_kill 139 = .ok (.goto 4, 3) := by decide +kernel
theorem dX12_kill_142 : decode cX12_kill 142 = .ok (.iconst 0, 1) := by decide +kernel
theorem dX12_kill_143 : decode cX12_kill 143 = .ok (.iadd, 1) := by decide +kernel
theorem dX12_kill_144 : decode cX12_kill 144 = .ok (.istore_n 3, 1) := by decide +kernel
theorem dX12_kill_145 : decode cX12_kill 145 = .ok (.iinc 4 1, 3) := by decide +kernel
theorem dX12_kill_148 : decode cX12_kill 148 = .ok (.goto (-52), 3) := by decide +kernel
theorem dX12_kill_151 : decode cX12_kill 151 = .ok (.aload_n 0, 1) := by decide +kernel
theorem dX12_kill_152 : decode cX12_kill 152 = .ok (.getfield 315, 3) := by decide +kernel
theorem dX12_kill_155 : decode cX12_kill 155 = .ok (.iload_n 1, 1) := by decide +kernel
theorem dX12_kill_156 : decode cX12_kill 156 = .ok (.iconst 1, 1) := by decide +kernel
theorem dX12_kill_157 : decode cX12_kill 157 = .ok (.bastore, 1) := by decide +kernel
theorem dX12_kill_158 : decode cX12_kill 158 = .ok (.aload_n 0, 1) := by decide +kernel
theorem dX12_kill_159 : decode cX12_kill 159 = .ok (.getfield 324, 3) := by decide +kernel
theorem dX12_kill_162 : decode cX12_kill 162 = .ok (.iload_n 1, 1) := by decide +kernel
theorem dX12_kill_163 : decode cX12_kill 163 = .ok (.aload_n 0, 1) := by decide +kernel
theorem dX12_kill_164 : decode cX12_kill 164 = .ok (.iload_n 1, 1) := by decide +kernel
theorem dX12_kill_165 : decode cX12_kill 165 = .ok (.invokevirtual 775, 3) := by decide +kernel
theorem dX12_kill_168 : decode cX12_kill 168 = .ok (.iastore, 1) := by decide +kernel
theorem dX12_kill_169 : decode cX12_kill 169 = .ok (.iload_n 3, 1) := by decide +kernel
theorem dX12_kill_170 : decode cX12_kill 170 = .ok (.ireturn, 1) := by decide +kernel
theorem dX12_leastSuite_0 : decode cX12_leastSuite 0 = .ok (.iconst (-1), 1) := by decide +kernel
theorem dX12_leastSuite_1 : decode cX12_leastSuite 1 = .ok (.istore_n 2, 1) := by decide +kernel
theorem dX12_leastSuite_2 : decode cX12_leastSuite 2 = .ok (.iconst 0, 1) := by decide +kernel
theorem dX12_leastSuite_3 : decode cX12_leastSuite 3 = .ok (.istore_n 3, 1) := by decide +kernel
theorem dX12_leastSuite_4 : decode cX12_leastSuite 4 = .ok (.iload_n 3, 1) := by decide +kernel
theorem dX12_leastSuite_5 : decode cX12_leastSuite 5 = .ok (.iconst 1, 1) := by decide +kernel
theorem dX12_leastSuite_6 : decode cX12_leastSuite 6 = .ok (.aload_n 0, 1) := by decide +kernel
theorem dX12_leastSuite_7 : decode cX12_leastSuite 7 = .ok (.getfield 58, 3) := by decide +kernel
theorem dX12_leastSuite_10 : decode cX12_leastSuite 10 = .ok (.iload_n 1, 1) := by decide +kernel
theorem dX12_leastSuite_11 : decode cX12_leastSuite 11 = .ok (.iaload, 1) := by decide +kernel
theorem dX12_leastSuite_12 : decode cX12_leastSuite 12 = .ok (.ishl, 1) := by decide +kernel
theorem dX12_leastSuite_13 : decode cX12_leastSuite 13 = .ok (.if_icmp .ge 129, 3) := by decide +kernel
theorem dX12_leastSuite_16 : decode cX12_leastSuite 16 = .ok (.iload_n 2, 1) := by decide +kernel
theorem dX12_leastSuite_17 : decode cX12_leastSuite 17 = .ok (.ifCond .lt 33, 3) := by decide +kernel
theorem dX12_leastSuite_20 : decode cX12_leastSuite 20 = .ok (.iload_n 3, 1) := by decide +kernel
theorem dX12_leastSuite_21 : decode cX12_leastSuite 21 = .ok (.invokestatic 766, 3) := by decide +kernel
theorem dX12_leastSuite_24 : decode cX12_leastSuite 24 = .ok (.iload_n 2, 1) := by decide +kernel
theorem dX12_leastSuite_25 : decode cX12_leastSuite 25 = .ok (.invokestatic 766, 3) := by decide +kernel
theorem dX12_leastSuite_28 : decode cX12_leastSuite 28 = .ok (.if_icmp .lt 22, 3) := by decide +kernel
theorem dX12_leastSuite_31 : decode cX12_leastSuite 31 = .ok (.iload_n 3, 1) := by decide +kernel
theorem dX12_leastSuite_32 : decode cX12_leastSuite 32 = .ok (.invokestatic 766, 3) := by decide +kernel
theorem dX12_leastSuite_35 : decode cX12_leastSuite 35 = .ok (.iload_n 2, 1) := by decide +kernel
theorem dX12_leastSuite_36 : decode cX12_leastSuite 36 = .ok (.invokestatic 766, 3) := by decide +kernel
theorem dX12_leastSuite_39 : decode cX12_leastSuite 39 = .ok (.if_icmp .ne 15, 3) := by decide +kernel
theorem dX12_leastSuite_42 : decode cX12_leastSuite 42 = .ok (.iload_n 3, 1) := by decide +kernel
theorem dX12_leastSuite_43 : decode cX12_leastSuite 43 = .ok (.iload_n 2, 1) := by decide +kernel
theorem dX12_leastSuite_44 : decode cX12_leastSuite 44 = .ok (.invokestatic 778, 3) := by decide +kernel
theorem dX12_leastSuite_47 : decode cX12_leastSuite 47 = .ok (.ifCond .eq 7, 3) := by decide +kernel
theorem dX12_leastSuite_50 : decode cX12_leastSuite 50 = .ok (.iconst 1, 1) := by decide +kernel
theorem dX12_leastSuite_51 : decode cX12_leastSuite 51 = .ok (.goto 4, 3) := by decide +kernel
theorem dX12_leastSuite_54 : decode cX12_leastSuite 54 = .ok (.iconst 0, 1) := by decide +kernel
theorem dX12_leastSuite_55 : decode cX12_leastSuite 55 = .ok (.istore 4, 2) := by decide +kernel
theorem dX12_leastSuite_57 : decode cX12_leastSuite 57 = .ok (.iload 4, 2) := by decide +kernel
theorem dX12_leastSuite_59 : decode cX12_leastSuite 59 = .ok (.istore 5, 2) := by decide +kernel
theorem dX12_leastSuite_61 : decode cX12_leastSuite 61 = .ok (.sipush 1000, 3) := by decide +kernel
theorem dX12_leastSuite_64 : decode cX12_leastSuite 64 = .ok (.iload_n 1, 1) := by decide +kernel
theorem dX12_leastSuite_65 : decode cX12_leastSuite 65 = .ok (.imul, 1) := by decide +kernel
theorem dX12_leastSuite_66 : decode cX12_leastSuite 66 = .ok (.istore 6, 2) := by decide +kernel
theorem dX12_leastSuite_68 : decode cX12_leastSuite 68 = .ok (.iload 6, 2) := by decide +kernel
theorem dX12_leastSuite_70 : decode cX12_leastSuite 70 = .ok (.sipush 1000, 3) := by decide +kernel
theorem dX12_leastSuite_73 : decode cX12_leastSuite 73 = .ok (.iload_n 1, 1) := by decide +kernel
theorem dX12_leastSuite_74 : decode cX12_leastSuite 74 = .ok (.imul, 1) := by decide +kernel
theorem dX12_leastSuite_75 : decode cX12_leastSuite 75 = .ok (.aload_n 0, 1) := by decide +kernel
theorem dX12_leastSuite_76 : decode cX12_leastSuite 76 = .ok (.getfield 106, 3) := by decide +kernel
theorem dX12_leastSuite_79 : decode cX12_leastSuite 79 = .ok (.iload_n 1, 1) := by decide +kernel
theorem dX12_leastSuite_80 : decode cX12_leastSuite 80 = .ok (.iaload, 1) := by decide +kernel
theorem dX12_leastSuite_81 : decode cX12_leastSuite 81 = .ok (.iadd, 1) := by decide +kernel
theorem dX12_leastSuite_82 : decode cX12_leastSuite 82 = .ok (.if_icmp .ge 43, 3) := by decide +kernel
theorem dX12_leastSuite_85 : decode cX12_leastSuite 85 = .ok (.iload 5, 2) := by decide +kernel
theorem dX12_leastSuite_87 : decode cX12_leastSuite 87 = .ok (.ifCond .eq 38, 3) := by decide +kernel
theorem dX12_leastSuite_90 : decode cX12_leastSuite 90 = .ok (.aload_n 0, 1) := by decide +kernel
theorem dX12_leastSuite_91 : decode cX12_leastSuite 91 = .ok (.getfield 318, 3) := by decide +kernel
theorem dX12_leastSuite_94 : decode cX12_leastSuite 94 = .ok (.iload 6, 2) := by decide +kernel
theorem dX12_leastSuite_96 : decode cX12_leastSuite 96 = .ok (.iaload, 1) := by decide +kernel
theorem dX12_leastSuite_97 : decode cX12_leastSuite 97 = .ok (.ifCond .eq 15, 3) := by decide +kernel
theorem dX12_leastSuite_100 : decode cX12_leastSuite 100 = .ok (.aload_n 0, 1) := by decide +kernel
theorem dX12_leastSuite_101 : decode cX12_leastSuite 101 = .ok (.getfield 318, 3) := by decide +kernel
theorem dX12_leastSuite_104 : decode cX12_leastSuite 104 = .ok (.iload 6, 2) := by decide +kernel
theorem dX12_leastSuite_106 : decode cX12_leastSuite 106 = .ok (.iaload, 1) := by decide +kernel
theorem dX12_leastSuite_107 : decode cX12_leastSuite 107 = .ok (.iload_n 3, 1) := by decide +kernel
theorem dX12_leastSuite_108 : decode cX12_leastSuite 108 = .ok (.iand, 1) := by decide +kernel
theorem dX12_leastSuite_109 : decode cX12_leastSuite 109 = .ok (.ifCond .eq 7, 3) := by decide +kernel
theorem dX12_leastSuite_112 : decode cX12_leastSuite 112 = .ok (.iconst 1, 1) := by decide +kernel
theorem dX12_leastSuite_113 : decode cX12_leastSuite 113 = .ok (.goto 4, 3) := by decide +kernel
theorem dX12_leastSuite_116 : decode cX12_leastSuite 116 = .ok (.iconst 0, 1) := by decide +kernel
theorem dX12_leastSuite_117 : decode cX12_leastSuite 117 = .ok (.istore 5, 2) := by decide +kernel
theorem dX12_leastSuite_119 : decode cX12_leastSuite 119 = .ok (.iinc 6 1, 3) := by decide +kernel
theorem dX12_leastSuite_122 : decode cX12_leastSuite 122 = .ok (.goto (-54), 3) := by decide +kernel
theorem dX12_leastSuite_125 : decode cX12_leastSuite 125 = .ok (.iload 5, 2) := by decide +kernel
theorem dX12_leastSuite_127 : decode cX12_leastSuite 127 = .ok (.ifCond .eq 7, 3) := by decide +kernel
theorem dX12_leastSuite_130 : decode cX12_leastSuite 130 = .ok (.iload_n 3, 1) := by decide +kernel
theorem dX12_leastSuite_131 : decode cX12_leastSuite 131 = .ok (.goto 4, 3) := by decide +kernel
theorem dX12_leastSuite_134 : decode cX12_leastSuite 134 = .ok (.iload_n 2, 1) := by decide +kernel
theorem dX12_leastSuite_135 : decode cX12_leastSuite 135 = .ok (.istore_n 2, 1) := by decide +kernel
theorem dX12_leastSuite_136 : decode cX12_leastSuite 136 = .ok (.iinc 3 1, 3) := by decide +kernel
theorem dX12_leastSuite_139 : decode cX12_leastSuite 139 = .ok (.goto (-135), 3) := by decide +kernel
theorem dX12_leastSuite_142 : decode cX12_leastSuite 142 = .ok (.iload_n 2, 1) := by decide +kernel
theorem dX12_leastSuite_143 : decode cX12_leastSuite 143 = .ok (.ireturn, 1) := by decide +kernel
theorem dX12_isAhead_0 : decode cX12_isAhead 0 = .ok (.iload_n 0, 1) := by decide +kernel
theorem dX12_isAhead_1 : decode cX12_isAhead 1 = .ok (.iload_n 1, 1) := by decide +kernel
theorem dX12_isAhead_2 : decode cX12_isAhead 2 = .ok (.ixor, 1) := by decide +kernel
theorem dX12_isAhead_3 : decode cX12_isAhead 3 = .ok (.istore_n 2, 1) := by decide +kernel
theorem dX12_isAhead_4 : decode cX12_isAhead 4 = .ok (.iload_n 2, 1) := by decide +kernel
theorem dX12_isAhead_5 : decode cX12_isAhead 5 = .ok (.ifCond .eq 16, 3) := by decide +kernel
theorem dX12_isAhead_8 : decode cX12_isAhead 8 = .ok (.iload_n 0, 1) := by decide +kernel
theorem dX12_isAhead_9 : decode cX12_isAhead 9 = .ok (.iload_n 2, 1) := by decide +kernel
theorem dX12_isAhead_10 : decode cX12_isAhead 10 = .ok (.invokestatic 781, 3) := by decide +kernel
theorem dX12_isAhead_13 : decode cX12_isAhead 13 = .ok (.iand, 1) := by decide +kernel
theorem dX12_isAhead_14 : decode cX12_isAhead 14 = .ok (.ifCond .eq 7, 3) := by decide +kernel
theorem dX12_isAhead_17 : decode cX12_isAhead 17 = .ok (.iconst 1, 1) := by decide +kernel
theorem dX12_isAhead_18 : decode cX12_isAhead 18 = .ok (.goto 4, 3) := by decide +kernel
theorem dX12_isAhead_21 : decode cX12_isAhead 21 = .ok (.iconst 0, 1) := by decide +kernel
theorem dX12_isAhead_22 : decode cX12_isAhead 22 = .ok (.ireturn, 1) := by decide +kernel
theorem dX12_killed_0 : decode cX12_killed 0 = .ok (.aload_n 0, 1) := by decide +kernel
theorem dX12_killed_1 : decode cX12_killed 1 = .ok (.iload_n 1, 1) := by decide +kernel
theorem dX12_killed_2 : decode cX12_killed 2 = .ok (.iload_n 3, 1) := by decide +kernel
theorem dX12_killed_3 : decode cX12_killed 3 = .ok (.invokevirtual 747, 3) := by decide +kernel
theorem dX12_killed_6 : decode cX12_killed 6 = .ok (.ifCond .eq 19, 3) := by decide +kernel
theorem dX12_killed_9 : decode cX12_killed 9 = .ok (.iload_n 2, 1) := by decide +kernel
theorem dX12_killed_10 : decode cX12_killed 10 = .ok (.iconst 0, 1) := by decide +kernel
theorem dX12_killed_11 : decode cX12_killed 11 = .ok (.aload_n 0, 1) := by decide +kernel
theorem dX12_killed_12 : decode cX12_killed 12 = .ok (.getfield 106, 3) := by decide +kernel
theorem dX12_killed_15 : decode cX12_killed 15 = .ok (.iload_n 1, 1) := by decide +kernel
theorem dX12_killed_16 : decode cX12_killed 16 = .ok (.iaload, 1) := by decide +kernel
theorem dX12_killed_17 : decode cX12_killed 17 = .ok (.iconst 1, 1) := by decide +kernel
theorem dX12_killed_18 : decode cX12_killed 18 = .ok (.isub, 1) := by decide +kernel
theorem dX12_killed_19 : decode cX12_killed 19 = .ok (.invokestatic 381, 3) := by decide +kernel
theorem dX12_killed_22 : decode cX12_killed 22 = .ok (.ifCond .ne 5, 3) := by decide +kernel
theorem dX12_killed_25 : decode cX12_killed 25 = .ok (.iconst (-1), 1) := by decide +kernel
theorem dX12_killed_26 : decode cX12_killed 26 = .ok (.ireturn, 1) := by decide +kernel
theorem dX12_killed_27 : decode cX12_killed 27 = .ok (.aload_n 0, 1) := by decide +kernel
theorem dX12_killed_28 : decode cX12_killed 28 = .ok (.getfield 315, 3) := by decide +kernel
theorem dX12_killed_31 : decode cX12_killed 31 = .ok (.iload_n 1, 1) := by decide +kernel
theorem dX12_killed_32 : decode cX12_killed 32 = .ok (.baload, 1) := by decide +kernel
theorem dX12_killed_33 : decode cX12_killed 33 = .ok (.ifCond .eq 22, 3) := by decide +kernel
theorem dX12_killed_36 : decode cX12_killed 36 = .ok (.aload_n 0, 1) := by decide +kernel
theorem dX12_killed_37 : decode cX12_killed 37 = .ok (.getfield 318, 3) := by decide +kernel
theorem dX12_killed_40 : decode cX12_killed 40 = .ok (.sipush 1000, 3) := by decide +kernel
theorem dX12_killed_43 : decode cX12_killed 43 = .ok (.iload_n 1, 1) := by decide +kernel
theorem dX12_killed_44 : decode cX12_killed 44 = .ok (.imul, 1) := by decide +kernel
theorem dX12_killed_45 : decode cX12_killed 45 = .ok (.iload_n 2, 1) := by decide +kernel
theorem dX12_killed_46 : decode cX12_killed 46 = .ok (.iadd, 1) := by decide +kernel
theorem dX12_killed_47 : decode cX12_killed 47 = .ok (.iaload, 1) := by decide +kernel
theorem dX12_killed_48 : decode cX12_killed 48 = .ok (.iload_n 3, 1) := by decide +kernel
theorem dX12_killed_49 : decode cX12_killed 49 = .ok (.ishr, 1) := by decide +kernel
theorem dX12_killed_50 : decode cX12_killed 50 = .ok (.iconst 1, 1) := by decide +kernel
theorem dX12_killed_51 : decode cX12_killed 51 = .ok (.iand, 1) := by decide +kernel
theorem dX12_killed_52 : decode cX12_killed 52 = .ok (.goto 5, 3) := by decide +kernel
theorem dX12_killed_55 : decode cX12_killed 55 = .ok (.bipush (-2), 2) := by decide +kernel
theorem dX12_killed_57 : decode cX12_killed 57 = .ok (.ireturn, 1) := by decide +kernel
theorem dX12_least_0 : decode cX12_least 0 = .ok (.aload_n 0, 1) := by decide +kernel
theorem dX12_least_1 : decode cX12_least 1 = .ok (.iload_n 1, 1) := by decide +kernel
theorem dX12_least_2 : decode cX12_least 2 = .ok (.invokevirtual 735, 3) := by decide +kernel
theorem dX12_least_5 : decode cX12_least 5 = .ok (.ifCond .eq 8, 3) := by decide +kernel
theorem dX12_least_8 : decode cX12_least 8 = .ok (.iload_n 2, 1) := by decide +kernel
theorem dX12_least_9 : decode cX12_least 9 = .ok (.iconst (-1), 1) := by decide +kernel
theorem dX12_least_10 : decode cX12_least 10 = .ok (.if_icmp .ge 5, 3) := by decide +kernel
theorem dX12_least_13 : decode cX12_least 13 = .ok (.iconst (-1), 1) := by decide +kernel
theorem dX12_least_14 : decode cX12_least 14 = .ok (.ireturn, 1) := by decide +kernel
theorem dX12_least_15 : decode cX12_least 15 = .ok (.aload_n 0, 1) := by decide +kernel
theorem dX12_least_16 : decode cX12_least 16 = .ok (.getfield 315, 3) := by decide +kernel
theorem dX12_least_19 : decode cX12_least 19 = .ok (.iload_n 1, 1) := by decide +kernel
theorem dX12_least_20 : decode cX12_least 20 = .ok (.baload, 1) := by decide +kernel
theorem dX12_least_21 : decode cX12_least 21 = .ok (.ifCond .ne 6, 3) := by decide +kernel
theorem dX12_least_24 : decode cX12_least 24 = .ok (.bipush (-2), 2) := by decide +kernel
theorem dX12_least_26 : decode cX12_least 26 = .ok (.ireturn, 1) := by decide +kernel
theorem dX12_least_27 : decode cX12_least 27 = .ok (.aload_n 0, 1) := by decide +kernel
theorem dX12_least_28 : decode cX12_least 28 = .ok (.getfield 324, 3) := by decide +kernel
theorem dX12_least_31 : decode cX12_least 31 = .ok (.iload_n 1, 1) := by decide +kernel
theorem dX12_least_32 : decode cX12_least 32 = .ok (.iaload, 1) := by decide +kernel
theorem dX12_least_33 : decode cX12_least 33 = .ok (.invokestatic 766, 3) := by decide +kernel
theorem dX12_least_36 : decode cX12_least 36 = .ok (.istore_n 3, 1) := by decide +kernel
theorem dX12_least_37 : decode cX12_least 37 = .ok (.iload_n 2, 1) := by decide +kernel
theorem dX12_least_38 : decode cX12_least 38 = .ok (.ifCond .ge 5, 3) := by decide +kernel
theorem dX12_least_41 : decode cX12_least 41 = .ok (.iload_n 3, 1) := by decide +kernel
theorem dX12_least_42 : decode cX12_least 42 = .ok (.ireturn, 1) := by decide +kernel
theorem dX12_least_43 : decode cX12_least 43 = .ok (.iload_n 2, 1) := by decide +kernel
theorem dX12_least_44 : decode cX12_least 44 = .ok (.istore 4, 2) := by decide +kernel
theorem dX12_least_46 : decode cX12_least 46 = .ok (.iconst 0, 1) := by decide +kernel
theorem dX12_least_47 : decode cX12_least 47 = .ok (.istore 5, 2) := by decide +kernel
theorem dX12_least_49 : decode cX12_least 49 = .ok (.iload 5, 2) := by decide +kernel
theorem dX12_least_51 : decode cX12_least 51 = .ok (.bipush 16, 2) := by decide +kernel
theorem dX12_least_53 : decode cX12_least 53 = .ok (.if_icmp .ge 35, 3) := by decide +kernel
theorem dX12_least_56 : decode cX12_least 56 = .ok (.aload_n 0, 1) := by decide +kernel
theorem dX12_least_57 : decode cX12_least 57 = .ok (.getfield 324, 3) := by decide +kernel
theorem dX12_least_60 : decode cX12_least 60 = .ok (.iload_n 1, 1) := by decide +kernel
theorem dX12_least_61 : decode cX12_least 61 = .ok (.iaload, 1) := by decide +kernel
theorem dX12_least_62 : decode cX12_least 62 = .ok (.iload 5, 2) := by decide +kernel
theorem dX12_least_64 : decode cX12_least 64 = .ok (.ishr, 1) := by decide +kernel
theorem dX12_least_65 : decode cX12_least 65 = .ok (.iconst 1, 1) := by decide +kernel
theorem dX12_least_66 : decode cX12_least 66 = .ok (.iand, 1) := by decide +kernel
theorem dX12_least_67 : decode cX12_least 67 = .ok (.iconst 1, 1) := by decide +kernel
theorem dX12_least_68 : decode cX12_least 68 = .ok (.if_icmp .ne 14, 3) := by decide +kernel
theorem dX12_least_71 : decode cX12_least 71 = .ok (.iload 4, 2) := by decide +kernel
theorem dX12_least_73 : decode cX12_least 73 = .ok (.ifCond .ne 6, 3) := by decide +kernel
theorem dX12_least_76 : decode cX12_least 76 = .ok (.iload 5, 2) := by decide +kernel
theorem dX12_least_78 : decode cX12_least 78 = .ok (.ireturn, 1) := by decide +kernel
theorem dX12_least_79 : decode cX12_least 79 = .ok (.iinc 4 (-1), 3) := by decide +kernel
theorem dX12_least_82 : decode cX12_least 82 = .ok (.iinc 5 1, 3) := by decide +kernel
theorem dX12_least_85 : decode cX12_least 85 = .ok (.goto (-36), 3) := by decide +kernel
theorem dX12_least_88 : decode cX12_least 88 = .ok (.iconst (-1), 1) := by decide +kernel
theorem dX12_least_89 : decode cX12_least 89 = .ok (.ireturn, 1) := by decide +kernel
theorem dX12_breaks_0 : decode cX12_breaks 0 = .ok (.aload_n 0, 1) := by decide +kernel
theorem dX12_breaks_1 : decode cX12_breaks 1 = .ok (.iload_n 1, 1) := by decide +kernel
theorem dX12_breaks_2 : decode cX12_breaks 2 = .ok (.iconst (-1), 1) := by decide +kernel
theorem dX12_breaks_3 : decode cX12_breaks 3 = .ok (.invokevirtual 738, 3) := by decide +kernel
theorem dX12_breaks_6 : decode cX12_breaks 6 = .ok (.aload_n 0, 1) := by decide +kernel
theorem dX12_breaks_7 : decode cX12_breaks 7 = .ok (.invokevirtual 726, 3) := by decide +kernel
theorem dX12_breaks_10 : decode cX12_breaks 10 = .ok (.aload_n 0, 1) := by decide +kernel
theorem dX12_breaks_11 : decode cX12_breaks 11 = .ok (.iconst 0, 1) := by decide +kernel
theorem dX12_breaks_12 : decode cX12_breaks 12 = .ok (.putfield 638, 3) := by decide +kernel
theorem dX12_breaks_15 : decode cX12_breaks 15 = .ok (.iconst 0, 1) := by decide +kernel
theorem dX12_breaks_16 : decode cX12_breaks 16 = .ok (.istore_n 3, 1) := by decide +kernel
theorem dX12_breaks_17 : decode cX12_breaks 17 = .ok (.iload_n 3, 1) := by decide +kernel
theorem dX12_breaks_18 : decode cX12_breaks 18 = .ok (.aload_n 0, 1) := by decide +kernel
theorem dX12_breaks_19 : decode cX12_breaks 19 = .ok (.getfield 88, 3) := by decide +kernel
theorem dX12_breaks_22 : decode cX12_breaks 22 = .ok (.bipush 6, 2) := by decide +kernel
theorem dX12_breaks_24 : decode cX12_breaks 24 = .ok (.iload_n 1, 1) := by decide +kernel
theorem dX12_breaks_25 : decode cX12_breaks 25 = .ok (.imul, 1) := by decide +kernel
theorem dX12_breaks_26 : decode cX12_breaks 26 = .ok (.iload_n 2, 1) := by decide +kernel
theorem dX12_breaks_27 : decode cX12_breaks 27 = .ok (.iadd, 1) := by decide +kernel
theorem dX12_breaks_28 : decode cX12_breaks 28 = .ok (.iaload, 1) := by decide +kernel
theorem dX12_breaks_29 : decode cX12_breaks 29 = .ok (.if_icmp .ge 19, 3) := by decide +kernel
theorem dX12_breaks_32 : decode cX12_breaks 32 = .ok (.aload_n 0, 1) := by decide +kernel
theorem dX12_breaks_33 : decode cX12_breaks 33 = .ok (.aload_n 0, 1) := by decide +kernel
theorem dX12_breaks_34 : decode cX12_breaks 34 = .ok (.getfield 336, 3) := by decide +kernel
theorem dX12_breaks_37 : decode cX12_breaks 37 = .ok (.iload_n 3, 1) := by decide +kernel
theorem dX12_breaks_38 : decode cX12_breaks 38 = .ok (.iaload, 1) := by decide +kernel
theorem dX12_breaks_39 : decode cX12_breaks 39 = .ok (.invokevirtual 659, 3) := by decide +kernel
theorem dX12_breaks_42 : decode cX12_breaks 42 = .ok (.iinc 3 1, 3) := by decide +kernel
theorem dX12_breaks_45 : decode cX12_breaks 45 = .ok (.goto (-28), 3) := by decide +kernel
theorem dX12_breaks_48 : decode cX12_breaks 48 = .ok (.aload_n 0, 1) := by decide +kernel
theorem dX12_breaks_49 : decode cX12_breaks 49 = .ok (.dup, 1) := by decide +kernel
theorem dX12_breaks_50 : decode cX12_breaks 50 = .ok (.getfield 784, 3) := by decide +kernel
theorem dX12_breaks_53 : decode cX12_breaks 53 = .ok (.iconst 1, 1) := by decide +kernel
theorem dX12_breaks_54 : decode cX12_breaks 54 = .ok (.iadd, 1) := by decide +kernel
theorem dX12_breaks_55 : decode cX12_breaks 55 = .ok (.putfield 784, 3) := by decide +kernel
theorem dX12_breaks_58 : decode cX12_breaks 58 = .ok (.aload_n 0, 1) := by decide +kernel
theorem dX12_breaks_59 : decode cX12_breaks 59 = .ok (.aload_n 0, 1) := by decide +kernel
theorem dX12_breaks_60 : decode cX12_breaks 60 = .ok (.getfield 91, 3) := by decide +kernel
theorem dX12_breaks_63 : decode cX12_breaks 63 = .ok (.bipush 6, 2) := by decide +kernel
theorem dX12_breaks_65 : decode cX12_breaks 65 = .ok (.iload_n 1, 1) := by decide +kernel
theorem dX12_breaks_66 : decode cX12_breaks 66 = .ok (.imul, 1) := by decide +kernel
theorem dX12_breaks_67 : decode cX12_breaks 67 = .ok (.iload_n 2, 1) := by decide +kernel
theorem dX12_breaks_68 : decode cX12_breaks 68 = .ok (.iadd, 1) := by decide +kernel
theorem dX12_breaks_69 : decode cX12_breaks 69 = .ok (.iaload, 1) := by decide +kernel
theorem dX12_breaks_70 : decode cX12_breaks 70 = .ok (.aload_n 0, 1) := by decide +kernel
theorem dX12_breaks_71 : decode cX12_breaks 71 = .ok (.getfield 88, 3) := by decide +kernel
theorem dX12_breaks_74 : decode cX12_breaks 74 = .ok (.bipush 6, 2) := by decide +kernel
theorem dX12_breaks_76 : decode cX12_breaks 76 = .ok (.iload_n 1, 1) := by decide +kernel
theorem dX12_breaks_77 : decode cX12_breaks 77 = .ok (.imul, 1) := by decide +kernel
theorem dX12_breaks_78 : decode cX12_breaks 78 = .ok (.iload_n 2, 1) := by decide +kernel
theorem dX12_breaks_79 : decode cX12_breaks 79 = .ok (.iadd, 1) := by decide +kernel
theorem dX12_breaks_80 : decode cX12_breaks 80 = .ok (.iaload, 1) := by decide +kernel
theorem dX12_breaks_81 : decode cX12_breaks 81 = .ok (.invokevirtual 729, 3) := by decide +kernel
theorem dX12_breaks_84 : decode cX12_breaks 84 = .ok (.ireturn, 1) := by decide +kernel
theorem dX12_property_0 : decode cX12_property 0 = .ok (.aload_n 0, 1) := by decide +kernel
theorem dX12_property_1 : decode cX12_property 1 = .ok (.iload_n 1, 1) := by decide +kernel
theorem dX12_property_2 : decode cX12_property 2 = .ok (.invokevirtual 735, 3) := by decide +kernel
theorem dX12_property_5 : decode cX12_property 5 = .ok (.ifCond .eq 30, 3) := by decide +kernel
theorem dX12_property_8 : decode cX12_property 8 = .ok (.iload_n 2, 1) := by decide +kernel
theorem dX12_property_9 : decode cX12_property 9 = .ok (.iconst 0, 1) := by decide +kernel
theorem dX12_property_10 : decode cX12_property 10 = .ok (.aload_n 0, 1) := by decide +kernel
theorem dX12_property_11 : decode cX12_property 11 = .ok (.getfield 82, 3) := by decide +kernel
theorem dX12_property_14 : decode cX12_property 14 = .ok (.iload_n 1, 1) := by decide +kernel
theorem dX12_property_15 : decode cX12_property 15 = .ok (.iaload, 1) := by decide +kernel
theorem dX12_property_16 : decode cX12_property 16 = .ok (.iconst 1, 1) := by decide +kernel
theorem dX12_property_17 : decode cX12_property 17 = .ok (.isub, 1) := by decide +kernel
theorem dX12_property_18 : decode cX12_property 18 = .ok (.invokestatic 381, 3) := by decide +kernel
theorem dX12_property_21 : decode cX12_property 21 = .ok (.ifCond .eq 14, 3) := by decide +kernel
theorem dX12_property_24 : decode cX12_property 24 = .ok (.iload_n 3, 1) := by decide +kernel
theorem dX12_property_25 : decode cX12_property 25 = .ok (.iconst 1, 1) := by decide +kernel
theorem dX12_property_26 : decode cX12_property 26 = .ok (.sipush 200, 3) := by decide +kernel
theorem dX12_property_29 : decode cX12_property 29 = .ok (.invokestatic 381, 3) := by decide +kernel
theorem dX12_property_32 : decode cX12_property 32 = .ok (.ifCond .ne 5, 3) := by decide +kernel
theorem dX12_property_35 : decode cX12_property 35 = .ok (.iconst (-1), 1) := by decide +kernel
theorem dX12_property_36 : decode cX12_property 36 = .ok (.ireturn, 1) := by decide +kernel
theorem dX12_property_37 : decode cX12_property 37 = .ok (.aload_n 0, 1) := by decide +kernel
theorem dX12_property_38 : decode cX12_property 38 = .ok (.getfield 88, 3) := by decide +kernel
theorem dX12_property_41 : decode cX12_property 41 = .ok (.bipush 6, 2) := by decide +kernel
theorem dX12_property_43 : decode cX12_property 43 = .ok (.iload_n 1, 1) := by decide +kernel
theorem dX12_property_44 : decode cX12_property 44 = .ok (.imul, 1) := by decide +kernel
theorem dX12_property_45 : decode cX12_property 45 = .ok (.iload_n 2, 1) := by decide +kernel
theorem dX12_property_46 : decode cX12_property 46 = .ok (.iadd, 1) := by decide +kernel
theorem dX12_property_47 : decode cX12_property 47 = .ok (.iaload, 1) := by decide +kernel
theorem dX12_property_48 : decode cX12_property 48 = .ok (.istore 4, 2) := by decide +kernel
theorem dX12_property_50 : decode cX12_property 50 = .ok (.aload_n 0, 1) := by decide +kernel
theorem dX12_property_51 : decode cX12_property 51 = .ok (.sipush 20000, 3) := by decide +kernel
theorem dX12_property_54 : decode cX12_property 54 = .ok (.putfield 644, 3) := by decide +kernel
theorem dX12_property_57 : decode cX12_property 57 = .ok (.aload_n 0, 1) := by decide +kernel
theorem dX12_property_58 : decode cX12_property 58 = .ok (.iconst 0, 1) := by decide +kernel
theorem dX12_property_59 : decode cX12_property 59 = .ok (.putfield 647, 3) := by decide +kernel
theorem dX12_property_62 : decode cX12_property 62 = .ok (.aload_n 0, 1) := by decide +kernel
theorem dX12_property_63 : decode cX12_property 63 = .ok (.iconst 0, 1) := by decide +kernel
theorem dX12_property_64 : decode cX12_property 64 = .ok (.putfield 784, 3) := by decide +kernel
theorem dX12_property_67 : decode cX12_property 67 = .ok (.aload_n 0, 1) := by decide +kernel
theorem dX12_property_68 : decode cX12_property 68 = .ok (.getfield 243, 3) := by decide +kernel
theorem dX12_property_71 : decode cX12_property 71 = .ok (.istore 5, 2) := by decide +kernel
theorem dX12_property_73 : decode cX12_property 73 = .ok (.iconst 1, 1) := by decide +kernel
theorem dX12_property_74 : decode cX12_property 74 = .ok (.istore 6, 2) := by decide +kernel
theorem dX12_property_76 : decode cX12_property 76 = .ok (.iconst 0, 1) := by decide +kernel
theorem dX12_property_77 : decode cX12_property 77 = .ok (.istore 7, 2) := by decide +kernel
theorem dX12_property_79 : decode cX12_property 79 = .ok (.iload 7, 2) := by decide +kernel
theorem dX12_property_81 : decode cX12_property 81 = .ok (.iload_n 3, 1) := by decide +kernel
theorem dX12_property_82 : decode cX12_property 82 = .ok (.if_icmp .ge 89, 3) := by decide +kernel
theorem dX12_property_85 : decode cX12_property 85 = .ok (.iload 6, 2) := by decide +kernel
theorem dX12_property_87 : decode cX12_property 87 = .ok (.ifCond .eq 84, 3) := by decide +kernel
theorem dX12_property_90 : decode cX12_property 90 = .ok (.iload 7, 2) := by decide +kernel
theorem dX12_property_92 : decode cX12_property 92 = .ok (.bipush 60, 2) := by decide +kernel
theorem dX12_property_94 : decode cX12_property 94 = .ok (.invokestatic 787, 3) := by decide +kernel
theorem dX12_property_97 : decode cX12_property 97 = .ok (.istore 8, 2) := by decide +kernel
theorem dX12_property_99 : decode cX12_property 99 = .ok (.iconst 0, 1) := by decide +kernel
theorem dX12_property_100 : decode cX12_property 100 = .ok (.istore 9, 2) := by decide +kernel
theorem dX12_property_102 : decode cX12_property 102 = .ok (.iload 9, 2) := by decide +kernel
theorem dX12_property_104 : decode cX12_property 104 = .ok (.iload 4, 2) := by decide +kernel
theorem dX12_property_106 : decode cX12_property 106 = .ok (.if_icmp .ge 43, 3) := by decide +kernel
theorem dX12_property_109 : decode cX12_property 109 = .ok (.iload 5, 2) := by decide +kernel
theorem dX12_property_111 : decode cX12_property 111 = .ok (.ldc_w 694, 3) := by decide +kernel
theorem dX12_property_114 : decode cX12_property 114 = .ok (.imul, 1) := by decide +kernel
theorem dX12_property_115 : decode cX12_property 115 = .ok (.sipush 12345, 3) := by decide +kernel
theorem dX12_property_118 : decode cX12_property 118 = .ok (.iadd, 1) := by decide +kernel
theorem dX12_property_119 : decode cX12_property 119 = .ok (.istore 5, 2) := by decide +kernel
theorem dX12_property_121 : decode cX12_property 121 = .ok (.aload_n 0, 1) := by decide +kernel
theorem dX12_property_122 : decode cX12_property 122 = .ok (.getfield 336, 3) := by decide +kernel
theorem dX12_property_125 : decode cX12_property 125 = .ok (.iload 9, 2) := by decide +kernel
theorem dX12_property_127 : decode cX12_property 127 = .ok (.iload 5, 2) := by decide +kernel
theorem dX12_property_129 : decode cX12_property 129 = .ok (.bipush 16, 2) := by decide +kernel
theorem dX12_property_131 : decode cX12_property 131 = .ok (.iushr, 1) := by decide +kernel
theorem dX12_property_132 : decode cX12_property 132 = .ok (.iconst 2, 1) := by decide +kernel
theorem dX12_property_133 : decode cX12_property 133 = .ok (.iload 8, 2) := by decide +kernel
theorem dX12_property_135 : decode cX12_property 135 = .ok (.imul, 1) := by decide +kernel
theorem dX12_property_136 : decode cX12_property 136 = .ok (.iconst 1, 1) := by decide +kernel
theorem dX12_property_137 : decode cX12_property 137 = .ok (.iadd, 1) := by decide +kernel
theorem dX12_property_138 : decode cX12_property 138 = .ok (.irem, 1) := by decide +kernel
theorem dX12_property_139 : decode cX12_property 139 = .ok (.iload 8, 2) := by decide +kernel
theorem dX12_property_141 : decode cX12_property 141 = .ok (.isub, 1) := by decide +kernel
theorem dX12_property_142 : decode cX12_property 142 = .ok (.iastore, 1) := by decide +kernel
theorem dX12_property_143 : decode cX12_property 143 = .ok (.iinc 9 1, 3) := by decide +kernel
theorem dX12_property_146 : decode cX12_property 146 = .ok (.goto (-44), 3) := by decide +kernel
theorem dX12_property_149 : decode cX12_property 149 = .ok (.aload_n 0, 1) := by decide +kernel
theorem dX12_property_150 : decode cX12_property 150 = .ok (.iload_n 1, 1) := by decide +kernel
theorem dX12_property_151 : decode cX12_property 151 = .ok (.iload_n 2, 1) := by decide +kernel
theorem dX12_property_152 : decode cX12_property 152 = .ok (.invokevirtual 792, 3) := by decide +kernel
theorem dX12_property_155 : decode cX12_property 155 = .ok (.ifCond .ne 7, 3) := by decide +kernel
theorem dX12_property_158 : decode cX12_property 158 = .ok (.iconst 1, 1) := by decide +kernel
theorem dX12_property_159 : decode cX12_property 159 = .ok (.goto 4, 3) := by decide +kernel
theorem dX12_property_162 : decode cX12_property 162 = .ok (.iconst 0, 1) := by decide +kernel
theorem dX12_property_163 : decode cX12_property 163 = .ok (.istore 6, 2) := by decide +kernel
theorem dX12_property_165 : decode cX12_property 165 = .ok (.iinc 7 1, 3) := by decide +kernel
theorem dX12_property_168 : decode cX12_property 168 = .ok (.goto (-89), 3) := by decide +kernel
theorem dX12_property_171 : decode cX12_property 171 = .ok (.aload_n 0, 1) := by decide +kernel
theorem dX12_property_172 : decode cX12_property 172 = .ok (.getfield 613, 3) := by decide +kernel
theorem dX12_property_175 : decode cX12_property 175 = .ok (.istore 7, 2) := by decide +kernel
theorem dX12_property_177 : decode cX12_property 177 = .ok (.iload 6, 2) := by decide +kernel
theorem dX12_property_179 : decode cX12_property 179 = .ok (.ifCond .ne 7, 3) := by decide +kernel
theorem dX12_property_182 : decode cX12_property 182 = .ok (.iconst 1, 1) := by decide +kernel
theorem dX12_property_183 : decode cX12_property 183 = .ok (.goto 4, 3) := by decide +kernel
theorem dX12_property_186 : decode cX12_property 186 = .ok (.iconst 0, 1) := by decide +kernel
theorem dX12_property_187 : decode cX12_property 187 = .ok (.istore 8, 2) := by decide +kernel
theorem dX12_property_189 : decode cX12_property 189 = .ok (.iload 8, 2) := by decide +kernel
theorem dX12_property_191 : decode cX12_property 191 = .ok (.ifCond .eq 149, 3) := by decide +kernel
theorem dX12_property_194 : decode cX12_property 194 = .ok (.aload_n 0, 1) := by decide +kernel
theorem dX12_property_195 : decode cX12_property 195 = .ok (.getfield 647, 3) := by decide +kernel
theorem dX12_property_198 : decode cX12_property 198 = .ok (.ifCond .ne 142, 3) := by decide +kernel
theorem dX12_property_201 : decode cX12_property 201 = .ok (.iconst 0, 1) := by decide +kernel
theorem dX12_property_202 : decode cX12_property 202 = .ok (.istore 8, 2) := by decide +kernel
theorem dX12_property_204 : decode cX12_property 204 = .ok (.iconst 0, 1) := by decide +kernel
theorem dX12_property_205 : decode cX12_property 205 = .ok (.istore 9, 2) := by decide +kernel
theorem dX12_property_207 : decode cX12_property 207 = .ok (.iload 9, 2) := by decide +kernel
theorem dX12_property_209 : decode cX12_property 209 = .ok (.iload 4, 2) := by decide +kernel
theorem dX12_property_211 : decode cX12_property 211 = .ok (.if_icmp .ge 126, 3) := by decide +kernel
theorem dX12_property_214 : decode cX12_property 214 = .ok (.iload 8, 2) := by decide +kernel
theorem dX12_property_216 : decode cX12_property 216 = .ok (.ifCond .ne 121, 3) := by decide +kernel
theorem dX12_property_219 : decode cX12_property 219 = .ok (.aload_n 0, 1) := by decide +kernel
theorem dX12_property_220 : decode cX12_property 220 = .ok (.getfield 336, 3) := by decide +kernel
theorem dX12_property_223 : decode cX12_property 223 = .ok (.iload 9, 2) := by decide +kernel
theorem dX12_property_225 : decode cX12_property 225 = .ok (.iaload, 1) := by decide +kernel
theorem dX12_property_226 : decode cX12_property 226 = .ok (.istore 10, 2) := by decide +kernel
theorem dX12_property_228 : decode cX12_property 228 = .ok (.iconst 1, 1) := by decide +kernel
theorem dX12_property_229 : decode cX12_property 229 = .ok (.istore 11, 2) := by decide +kernel
theorem dX12_property_231 : decode cX12_property 231 = .ok (.iconst 0, 1) := by decide +kernel
theorem dX12_property_232 : decode cX12_property 232 = .ok (.istore 12, 2) := by decide +kernel
theorem dX12_property_234 : decode cX12_property 234 = .ok (.iload 11, 2) := by decide +kernel
theorem dX12_property_236 : decode cX12_property 236 = .ok (.ifCond .eq 71, 3) := by decide +kernel
theorem dX12_property_239 : decode cX12_property 239 = .ok (.iload 8, 2) := by decide +kernel
theorem dX12_property_241 : decode cX12_property 241 = .ok (.ifCond .ne 66, 3) := by decide +kernel
theorem dX12_property_244 : decode cX12_property 244 = .ok (.aload_n 0, 1) := by decide +kernel
theorem dX12_property_245 : decode cX12_property 245 = .ok (.getfield 647, 3) := by decide +kernel
theorem dX12_property_248 : decode cX12_property 248 = .ok (.ifCond .ne 59, 3) := by decide +kernel
theorem dX12_property_251 : decode cX12_property 251 = .ok (.aload_n 0, 1) := by decide +kernel
theorem dX12_property_252 : decode cX12_property 252 = .ok (.iload 10, 2) := by decide +kernel
theorem dX12_property_254 : decode cX12_property 254 = .ok (.iload 12, 2) := by decide +kernel
theorem dX12_property_256 : decode cX12_property 256 = .ok (.invokevirtual 795, 3) := by decide +kernel
theorem dX12_property_259 : decode cX12_property 259 = .ok (.istore 11, 2) := by decide +kernel
theorem dX12_property_261 : decode cX12_property 261 = .ok (.iload 11, 2) := by decide +kernel
theorem dX12_property_263 : decode cX12_property 263 = .ok (.ifCond .eq 38, 3) := by decide +kernel
theorem dX12_property_266 : decode cX12_property 266 = .ok (.aload_n 0, 1) := by decide +kernel
theorem dX12_property_267 : decode cX12_property 267 = .ok (.getfield 336, 3) := by decide +kernel
theorem dX12_property_270 : decode cX12_property 270 = .ok (.iload 9, 2) := by decide +kernel
theorem dX12_property_272 : decode cX12_property 272 = .ok (.aload_n 0, 1) := by decide +kernel
theorem dX12_property_273 : decode cX12_property 273 = .ok (.getfield 798, 3) := by decide +kernel
theorem dX12_property_276 : decode cX12_property 276 = .ok (.iastore, 1) := by decide +kernel
theorem dX12_property_277 : decode cX12_property 277 = .ok (.aload_n 0, 1) := by decide +kernel
theorem dX12_property_278 : decode cX12_property 278 = .ok (.iload_n 1, 1) := by decide +kernel
theorem dX12_property_279 : decode cX12_property 279 = .ok (.iload_n 2, 1) := by decide +kernel
theorem dX12_property_280 : decode cX12_property 280 = .ok (.invokevirtual 792, 3) := by decide +kernel
theorem dX12_property_283 : decode cX12_property 283 = .ok (.istore 8, 2) := by decide +kernel
theorem dX12_property_285 : decode cX12_property 285 = .ok (.iload 8, 2) := by decide +kernel
theorem dX12_property_287 : decode cX12_property 287 = .ok (.ifCond .eq 10, 3) := by decide +kernel
theorem dX12_property_290 : decode cX12_property 290 = .ok (.aload_n 0, 1) := by decide +kernel
theorem dX12_property_291 : decode cX12_property 291 = .ok (.getfield 613, 3) := by decide +kernel
theorem dX12_property_294 : decode cX12_property 294 = .ok (.goto 5, 3) := by decide +kernel
theorem dX12_property_297 : decode cX12_property 297 = .ok (.iload 7, 2) := by decide +kernel
theorem dX12_property_299 : decode cX12_property 299 = .ok (.istore 7, 2) := by decide +kernel
theorem dX12_property_301 : decode cX12_property 301 = .ok (.iinc 12 1, 3) := by decide +kernel
theorem dX12_property_304 : decode cX12_property 304 = .ok (.goto (-70), 3) := by decide +kernel
theorem dX12_property_307 : decode cX12_property 307 = .ok (.aload_n 0, 1) := by decide +kernel
theorem dX12_property_308 : decode cX12_property 308 = .ok (.getfield 336, 3) := by decide +kernel
theorem dX12_property_311 : decode cX12_property 311 = .ok (.iload 9, 2) := by decide +kernel
theorem dX12_property_313 : decode cX12_property 313 = .ok (.iload 8, 2) := by decide +kernel
theorem dX12_property_315 : decode cX12_property 315 = .ok (.ifCond .eq 13, 3) := by decide +kernel
theorem dX12_property_318 : decode cX12_property 318 = .ok (.aload_n 0, 1) := by decide +kernel
theorem dX12_property_319 : decode cX12_property 319 = .ok (.getfield 336, 3) := by decide +kernel
theorem dX12_property_322 : decode cX12_property 322 = .ok (.iload 9, 2) := by decide +kernel
theorem dX12_property_324 : decode cX12_property 324 = .ok (.iaload, 1) := by decide +kernel
theorem dX12_property_325 : decode cX12_property 325 = .ok (.goto 5, 3) := by decide +kernel
theorem dX12_property_328 : decode cX12_property 328 = .ok (.iload 10, 2) := by decide +kernel
theorem dX12_property_330 : decode cX12_property 330 = .ok (.iastore, 1) := by decide +kernel
theorem dX12_property_331 : decode cX12_property 331 = .ok (.iinc 9 1, 3) := by decide +kernel
theorem dX12_property_334 : decode cX12_property 334 = .ok (.goto (-127), 3) := by decide +kernel
theorem dX12_property_337 : decode cX12_property 337 = .ok (.goto (-148), 3) := by decide +kernel
theorem dX12_property_340 : decode cX12_property 340 = .ok (.aload_n 0, 1) := by decide +kernel
theorem dX12_property_341 : decode cX12_property 341 = .ok (.getfield 647, 3) := by decide +kernel
theorem dX12_property_344 : decode cX12_property 344 = .ok (.ifCond .eq 11, 3) := by decide +kernel
theorem dX12_property_347 : decode cX12_property 347 = .ok (.aload_n 0, 1) := by decide +kernel
theorem dX12_property_348 : decode cX12_property 348 = .ok (.iconst 0, 1) := by decide +kernel
theorem dX12_property_349 : decode cX12_property 349 = .ok (.putfield 647, 3) := by decide +kernel
theorem dX12_property_352 : decode cX12_property 352 = .ok (.bipush (-4), 2) := by decide +kernel
theorem dX12_property_354 : decode cX12_property 354 = .ok (.ireturn, 1) := by decide +kernel
theorem dX12_property_355 : decode cX12_property 355 = .ok (.aload_n 0, 1) := by decide +kernel
theorem dX12_property_356 : decode cX12_property 356 = .ok (.iconst 1, 1) := by decide +kernel
theorem dX12_property_357 : decode cX12_property 357 = .ok (.putfield 801, 3) := by decide +kernel
theorem dX12_property_360 : decode cX12_property 360 = .ok (.aload_n 0, 1) := by decide +kernel
theorem dX12_property_361 : decode cX12_property 361 = .ok (.iload 6, 2) := by decide +kernel
theorem dX12_property_363 : decode cX12_property 363 = .ok (.putfield 804, 3) := by decide +kernel
theorem dX12_property_366 : decode cX12_property 366 = .ok (.aload_n 0, 1) := by decide +kernel
theorem dX12_property_367 : decode cX12_property 367 = .ok (.iload 4, 2) := by decide +kernel
theorem dX12_property_369 : decode cX12_property 369 = .ok (.putfield 807, 3) := by decide +kernel
theorem dX12_property_372 : decode cX12_property 372 = .ok (.aload_n 0, 1) := by decide +kernel
theorem dX12_property_373 : decode cX12_property 373 = .ok (.aload_n 0, 1) := by decide +kernel
theorem dX12_property_374 : decode cX12_property 374 = .ok (.getfield 784, 3) := by decide +kernel
theorem dX12_property_377 : decode cX12_property 377 = .ok (.putfield 810, 3) := by decide +kernel
theorem dX12_property_380 : decode cX12_property 380 = .ok (.aload_n 0, 1) := by decide +kernel
theorem dX12_property_381 : decode cX12_property 381 = .ok (.iload 6, 2) := by decide +kernel
theorem dX12_property_383 : decode cX12_property 383 = .ok (.ifCond .eq 7, 3) := by decide +kernel
theorem dX12_property_386 : decode cX12_property 386 = .ok (.iconst 0, 1) := by decide +kernel
theorem dX12_property_387 : decode cX12_property 387 = .ok (.goto 5, 3) := by decide +kernel
theorem dX12_property_390 : decode cX12_property 390 = .ok (.iload 7, 2) := by decide +kernel
theorem dX12_property_392 : decode cX12_property 392 = .ok (.putfield 813, 3) := by decide +kernel
theorem dX12_property_395 : decode cX12_property 395 = .ok (.iconst 0, 1) := by decide +kernel
theorem dX12_property_396 : decode cX12_property 396 = .ok (.istore 9, 2) := by decide +kernel
theorem dX12_property_398 : decode cX12_property 398 = .ok (.iload 9, 2) := by decide +kernel
theorem dX12_property_400 : decode cX12_property 400 = .ok (.iload 4, 2) := by decide +kernel
theorem dX12_property_402 : decode cX12_property 402 = .ok (.if_icmp .ge 23, 3) := by decide +kernel
theorem dX12_property_405 : decode cX12_property 405 = .ok (.aload_n 0, 1) := by decide +kernel
theorem dX12_property_406 : decode cX12_property 406 = .ok (.getfield 333, 3) := by decide +kernel
theorem dX12_property_409 : decode cX12_property 409 = .ok (.iload 9, 2) := by decide +kernel
theorem dX12_property_411 : decode cX12_property 411 = .ok (.aload_n 0, 1) := by decide +kernel
theorem dX12_property_412 : decode cX12_property 412 = .ok (.getfield 336, 3) := by decide +kernel
theorem dX12_property_415 : decode cX12_property 415 = .ok (.iload 9, 2) := by decide +kernel
theorem dX12_property_417 : decode cX12_property 417 = .ok (.iaload, 1) := by decide +kernel
theorem dX12_property_418 : decode cX12_property 418 = .ok (.iastore, 1) := by decide +kernel
theorem dX12_property_419 : decode cX12_property 419 = .ok (.iinc 9 1, 3) := by decide +kernel
theorem dX12_property_422 : decode cX12_property 422 = .ok (.goto (-24), 3) := by decide +kernel
theorem dX12_property_425 : decode cX12_property 425 = .ok (.iload 6, 2) := by decide +kernel
theorem dX12_property_427 : decode cX12_property 427 = .ok (.invokestatic 677, 3) := by decide +kernel
theorem dX12_property_430 : decode cX12_property 430 = .ok (.ireturn, 1) := by decide +kernel
theorem dX12_small_0 : decode cX12_small 0 = .ok (.aload_n 0, 1) := by decide +kernel
theorem dX12_small_1 : decode cX12_small 1 = .ok (.getfield 801, 3) := by decide +kernel
theorem dX12_small_4 : decode cX12_small 4 = .ok (.ifCond .eq 9, 3) := by decide +kernel
theorem dX12_small_7 : decode cX12_small 7 = .ok (.iload_n 1, 1) := by decide +kernel
theorem dX12_small_8 : decode cX12_small 8 = .ok (.bipush (-2), 2) := by decide +kernel
theorem dX12_small_10 : decode cX12_small 10 = .ok (.if_icmp .ge 5, 3) := by decide +kernel
theorem dX12_small_13 : decode cX12_small 13 = .ok (.iconst (-1), 1) := by decide +kernel
theorem dX12_small_14 : decode cX12_small 14 = .ok (.ireturn, 1) := by decide +kernel
theorem dX12_small_15 : decode cX12_small 15 = .ok (.iload_n 1, 1) := by decide +kernel
theorem dX12_small_16 : decode cX12_small 16 = .ok (.ifCond .ge 20, 3) := by decide +kernel
theorem dX12_small_19 : decode cX12_small 19 = .ok (.iload_n 1, 1) := by decide +kernel
theorem dX12_small_20 : decode cX12_small 20 = .ok (.iconst (-1), 1) := by decide +kernel
theorem dX12_small_21 : decode cX12_small 21 = .ok (.if_icmp .ne 10, 3) := by decide +kernel
theorem dX12_small_24 : decode cX12_small 24 = .ok (.aload_n 0, 1) := by decide +kernel
theorem dX12_small_25 : decode cX12_small 25 = .ok (.getfield 813, 3) := by decide +kernel
theorem dX12_small_28 : decode cX12_small 28 = .ok (.goto 7, 3) := by decide +kernel
theorem dX12_small_31 : decode cX12_small 31 = .ok (.aload_n 0, 1) := by decide +kernel
theorem dX12_small_32 : decode cX12_small 32 = .ok (.getfield 810, 3) := by decide +kernel
theorem dX12_small_35 : decode cX12_small 35 = .ok (.ireturn, 1) := by decide +kernel
theorem dX12_small_36 : decode cX12_small 36 = .ok (.aload_n 0, 1) := by decide +kernel
theorem dX12_small_37 : decode cX12_small 37 = .ok (.getfield 804, 3) := by decide +kernel
theorem dX12_small_40 : decode cX12_small 40 = .ok (.ifCond .ne 11, 3) := by decide +kernel
theorem dX12_small_43 : decode cX12_small 43 = .ok (.iload_n 1, 1) := by decide +kernel
theorem dX12_small_44 : decode cX12_small 44 = .ok (.aload_n 0, 1) := by decide +kernel
theorem dX12_small_45 : decode cX12_small 45 = .ok (.getfield 807, 3) := by decide +kernel
theorem dX12_small_48 : decode cX12_small 48 = .ok (.if_icmp .lt 7, 3) := by decide +kernel
theorem dX12_small_51 : decode cX12_small 51 = .ok (.iconst (-1), 1) := by decide +kernel
theorem dX12_small_52 : decode cX12_small 52 = .ok (.goto 9, 3) := by decide +kernel
theorem dX12_small_55 : decode cX12_small 55 = .ok (.aload_n 0, 1) := by decide +kernel
theorem dX12_small_56 : decode cX12_small 56 = .ok (.getfield 333, 3) := by decide +kernel
theorem dX12_small_59 : decode cX12_small 59 = .ok (.iload_n 1, 1) := by decide +kernel
theorem dX12_small_60 : decode cX12_small 60 = .ok (.iaload, 1) := by decide +kernel
theorem dX12_small_61 : decode cX12_small 61 = .ok (.ireturn, 1) := by decide +kernel
theorem dX12_isSmaller_0 : decode cX12_isSmaller 0 = .ok (.iload_n 1, 1) := by decide +kernel
theorem dX12_isSmaller_1 : decode cX12_isSmaller 1 = .ok (.ifCond .eq 7, 3) := by decide +kernel
theorem dX12_isSmaller_4 : decode cX12_isSmaller 4 = .ok (.iload_n 2, 1) := by decide +kernel
theorem dX12_isSmaller_5 : decode cX12_isSmaller 5 = .ok (.ifCond .ge 5, 3) := by decide +kernel
theorem dX12_isSmaller_8 : decode cX12_isSmaller 8 = .ok (.iconst 0, 1) := by decide +kernel
theorem dX12_isSmaller_9 : decode cX12_isSmaller 9 = .ok (.ireturn, 1) := by decide +kernel
theorem dX12_isSmaller_10 : decode cX12_isSmaller 10 = .ok (.aload_n 0, 1) := by decide +kernel
theorem dX12_isSmaller_11 : decode cX12_isSmaller 11 = .ok (.iconst 0, 1) := by decide +kernel
theorem dX12_isSmaller_12 : decode cX12_isSmaller 12 = .ok (.putfield 798, 3) := by decide +kernel
theorem dX12_isSmaller_15 : decode cX12_isSmaller 15 = .ok (.iload_n 2, 1) := by decide +kernel
theorem dX12_isSmaller_16 : decode cX12_isSmaller 16 = .ok (.ifCond .ne 5, 3) := by decide +kernel
theorem dX12_isSmaller_19 : decode cX12_isSmaller 19 = .ok (.iconst 1, 1) := by decide +kernel
theorem dX12_isSmaller_20 : decode cX12_isSmaller 20 = .ok (.ireturn, 1) := by decide +kernel
theorem dX12_isSmaller_21 : decode cX12_isSmaller 21 = .ok (.iload_n 2, 1) := by decide +kernel
theorem dX12_isSmaller_22 : decode cX12_isSmaller 22 = .ok (.iconst 1, 1) := by decide +kernel
theorem dX12_isSmaller_23 : decode cX12_isSmaller 23 = .ok (.isub, 1) := by decide +kernel
theorem dX12_isSmaller_24 : decode cX12_isSmaller 24 = .ok (.istore_n 3, 1) := by decide +kernel
theorem dX12_isSmaller_25 : decode cX12_isSmaller 25 = .ok (.iload_n 1, 1) := by decide +kernel
theorem dX12_isSmaller_26 : decode cX12_isSmaller 26 = .ok (.ifCond .ge 18, 3) := by decide +kernel
theorem dX12_isSmaller_29 : decode cX12_isSmaller 29 = .ok (.aload_n 0, 1) := by decide +kernel
theorem dX12_isSmaller_30 : decode cX12_isSmaller 30 = .ok (.iload_n 1, 1) := by decide +kernel
theorem dX12_isSmaller_31 : decode cX12_isSmaller 31 = .ok (.ineg, 1) := by decide +kernel
theorem dX12_isSmaller_32 : decode cX12_isSmaller 32 = .ok (.putfield 798, 3) := by decide +kernel
theorem dX12_isSmaller_35 : decode cX12_isSmaller 35 = .ok (.iload_n 3, 1) := by decide +kernel
theorem dX12_isSmaller_36 : decode cX12_isSmaller 36 = .ok (.ifCond .ne 5, 3) := by decide +kernel
theorem dX12_isSmaller_39 : decode cX12_isSmaller 39 = .ok (.iconst 1, 1) := by decide +kernel
theorem dX12_isSmaller_40 : decode cX12_isSmaller 40 = .ok (.ireturn, 1) := by decide +kernel
theorem dX12_isSmaller_41 : decode cX12_isSmaller 41 = .ok (.iinc 3 (-1), 3) := by decide +kernel
theorem dX12_isSmaller_44 : decode cX12_isSmaller 44 = .ok (.iload_n 1, 1) := by decide +kernel
theorem dX12_isSmaller_45 : decode cX12_isSmaller 45 = .ok (.istore 4, 2) := by decide +kernel
theorem dX12_isSmaller_47 : decode cX12_isSmaller 47 = .ok (.iconst 0, 1) := by decide +kernel
theorem dX12_isSmaller_48 : decode cX12_isSmaller 48 = .ok (.istore 5, 2) := by decide +kernel
theorem dX12_isSmaller_50 : decode cX12_isSmaller 50 = .ok (.iload 5, 2) := by decide +kernel
theorem dX12_isSmaller_52 : decode cX12_isSmaller 52 = .ok (.iload_n 3, 1) := by decide +kernel
theorem dX12_isSmaller_53 : decode cX12_isSmaller 53 = .ok (.if_icmp .gt 20, 3) := by decide +kernel
theorem dX12_isSmaller_56 : decode cX12_isSmaller 56 = .ok (.iload 4, 2) := by decide +kernel
theorem dX12_isSmaller_58 : decode cX12_isSmaller 58 = .ok (.ifCond .eq 15, 3) := by decide +kernel
theorem dX12_isSmaller_61 : decode cX12_isSmaller 61 = .ok (.iload 4, 2) := by decide +kernel
theorem dX12_isSmaller_63 : decode cX12_isSmaller 63 = .ok (.iconst 2, 1) := by decide +kernel
theorem dX12_isSmaller_64 : decode cX12_isSmaller 64 = .ok (.idiv, 1) := by decide +kernel
theorem dX12_isSmaller_65 : decode cX12_isSmaller 65 = .ok (.istore 4, 2) := by decide +kernel
theorem dX12_isSmaller_67 : decode cX12_isSmaller 67 = .ok (.iinc 5 1, 3) := by decide +kernel
theorem dX12_isSmaller_70 : decode cX12_isSmaller 70 = .ok (.goto (-20), 3) := by decide +kernel
theorem dX12_isSmaller_73 : decode cX12_isSmaller 73 = .ok (.aload_n 0, 1) := by decide +kernel
theorem dX12_isSmaller_74 : decode cX12_isSmaller 74 = .ok (.iload_n 1, 1) := by decide +kernel
theorem dX12_isSmaller_75 : decode cX12_isSmaller 75 = .ok (.iload 4, 2) := by decide +kernel
theorem dX12_isSmaller_77 : decode cX12_isSmaller 77 = .ok (.isub, 1) := by decide +kernel
theorem dX12_isSmaller_78 : decode cX12_isSmaller 78 = .ok (.putfield 798, 3) := by decide +kernel
theorem dX12_isSmaller_81 : decode cX12_isSmaller 81 = .ok (.iload 4, 2) := by decide +kernel
theorem dX12_isSmaller_83 : decode cX12_isSmaller 83 = .ok (.ifCond .eq 7, 3) := by decide +kernel
theorem dX12_isSmaller_86 : decode cX12_isSmaller 86 = .ok (.iconst 1, 1) := by decide +kernel
theorem dX12_isSmaller_87 : decode cX12_isSmaller 87 = .ok (.goto 4, 3) := by decide +kernel
theorem dX12_isSmaller_90 : decode cX12_isSmaller 90 = .ok (.iconst 0, 1) := by decide +kernel
theorem dX12_isSmaller_91 : decode cX12_isSmaller 91 = .ok (.ireturn, 1) := by decide +kernel
theorem dX12_smaller_0 : decode cX12_smaller 0 = .ok (.aload_n 0, 1) := by decide +kernel
theorem dX12_smaller_1 : decode cX12_smaller 1 = .ok (.iload_n 1, 1) := by decide +kernel
theorem dX12_smaller_2 : decode cX12_smaller 2 = .ok (.iload_n 2, 1) := by decide +kernel
theorem dX12_smaller_3 : decode cX12_smaller 3 = .ok (.invokevirtual 795, 3) := by decide +kernel
theorem dX12_smaller_6 : decode cX12_smaller 6 = .ok (.ifCond .eq 10, 3) := by decide +kernel
theorem dX12_smaller_9 : decode cX12_smaller 9 = .ok (.aload_n 0, 1) := by decide +kernel
theorem dX12_smaller_10 : decode cX12_smaller 10 = .ok (.getfield 798, 3) := by decide +kernel
theorem dX12_smaller_13 : decode cX12_smaller 13 = .ok (.goto 5, 3) := by decide +kernel
theorem dX12_smaller_16 : decode cX12_smaller 16 = .ok (.bipush (-2), 2) := by decide +kernel
theorem dX12_smaller_18 : decode cX12_smaller 18 = .ok (.ireturn, 1) := by decide +kernel
theorem dX12_history_0 : decode cX12_history 0 = .ok (.iload_n 1, 1) := by decide +kernel
theorem dX12_history_1 : decode cX12_history 1 = .ok (.iconst 0, 1) := by decide +kernel
theorem dX12_history_2 : decode cX12_history 2 = .ok (.iconst 2, 1) := by decide +kernel
theorem dX12_history_3 : decode cX12_history 3 = .ok (.invokestatic 381, 3) := by decide +kernel
theorem dX12_history_6 : decode cX12_history 6 = .ok (.ifCond .ne 5, 3) := by decide +kernel
theorem dX12_history_9 : decode cX12_history 9 = .ok (.iconst (-1), 1) := by decide +kernel
theorem dX12_history_10 : decode cX12_history 10 = .ok (.ireturn, 1) := by decide +kernel
theorem dX12_history_11 : decode cX12_history 11 = .ok (.aload_n 0, 1) := by decide +kernel
theorem dX12_history_12 : decode cX12_history 12 = .ok (.getfield 816, 3) := by decide +kernel
theorem dX12_history_15 : decode cX12_history 15 = .ok (.bipush 8, 2) := by decide +kernel
theorem dX12_history_17 : decode cX12_history 17 = .ok (.if_icmp .ne 6, 3) := by decide +kernel
theorem dX12_history_20 : decode cX12_history 20 = .ok (.bipush (-3), 2) := by decide +kernel
theorem dX12_history_22 : decode cX12_history 22 = .ok (.ireturn, 1) := by decide +kernel
theorem dX12_history_23 : decode cX12_history 23 = .ok (.aload_n 0, 1) := by decide +kernel
theorem dX12_history_24 : decode cX12_history 24 = .ok (.getfield 339, 3) := by decide +kernel
theorem dX12_history_27 : decode cX12_history 27 = .ok (.aload_n 0, 1) := by decide +kernel
theorem dX12_history_28 : decode cX12_history 28 = .ok (.getfield 816, 3) := by decide +kernel
theorem dX12_history_31 : decode cX12_history 31 = .ok (.iload_n 1, 1) := by decide +kernel
theorem dX12_history_32 : decode cX12_history 32 = .ok (.iastore, 1) := by decide +kernel
theorem dX12_history_33 : decode cX12_history 33 = .ok (.aload_n 0, 1) := by decide +kernel
theorem dX12_history_34 : decode cX12_history 34 = .ok (.getfield 342, 3) := by decide +kernel
theorem dX12_history_37 : decode cX12_history 37 = .ok (.aload_n 0, 1) := by decide +kernel
theorem dX12_history_38 : decode cX12_history 38 = .ok (.getfield 816, 3) := by decide +kernel
theorem dX12_history_41 : decode cX12_history 41 = .ok (.iconst 0, 1) := by decide +kernel
theorem dX12_history_42 : decode cX12_history 42 = .ok (.iastore, 1) := by decide +kernel
theorem dX12_history_43 : decode cX12_history 43 = .ok (.aload_n 0, 1) := by decide +kernel
theorem dX12_history_44 : decode cX12_history 44 = .ok (.dup, 1) := by decide +kernel
theorem dX12_history_45 : decode cX12_history 45 = .ok (.getfield 816, 3) := by decide +kernel
theorem dX12_history_48 : decode cX12_history 48 = .ok (.iconst 1, 1) := by decide +kernel
theorem dX12_history_49 : decode cX12_history 49 = .ok (.iadd, 1) := by decide +kernel
theorem dX12_history_50 : decode cX12_history 50 = .ok (.putfield 816, 3) := by decide +kernel
theorem dX12_history_53 : decode cX12_history 53 = .ok (.aload_n 0, 1) := by decide +kernel
theorem dX12_history_54 : decode cX12_history 54 = .ok (.getfield 816, 3) := by decide +kernel
theorem dX12_history_57 : decode cX12_history 57 = .ok (.iconst 1, 1) := by decide +kernel
theorem dX12_history_58 : decode cX12_history 58 = .ok (.isub, 1) := by decide +kernel
theorem dX12_history_59 : decode cX12_history 59 = .ok (.ireturn, 1) := by decide +kernel
theorem dX12_op_0 : decode cX12_op 0 = .ok (.iload_n 1, 1) := by decide +kernel
theorem dX12_op_1 : decode cX12_op 1 = .ok (.iconst 0, 1) := by decide +kernel
theorem dX12_op_2 : decode cX12_op 2 = .ok (.aload_n 0, 1) := by decide +kernel
theorem dX12_op_3 : decode cX12_op 3 = .ok (.getfield 816, 3) := by decide +kernel
theorem dX12_op_6 : decode cX12_op 6 = .ok (.iconst 1, 1) := by decide +kernel
theorem dX12_op_7 : decode cX12_op 7 = .ok (.isub, 1) := by decide +kernel
theorem dX12_op_8 : decode cX12_op 8 = .ok (.invokestatic 381, 3) := by decide +kernel
theorem dX12_op_11 : decode cX12_op 11 = .ok (.ifCond .eq 37, 3) := by decide +kernel
theorem dX12_op_14 : decode cX12_op 14 = .ok (.iload_n 2, 1) := by decide +kernel
theorem dX12_op_15 : decode cX12_op 15 = .ok (.iconst 0, 1) := by decide +kernel
theorem dX12_op_16 : decode cX12_op 16 = .ok (.iconst 1, 1) := by decide +kernel
theorem dX12_op_17 : decode cX12_op 17 = .ok (.invokestatic 381, 3) := by decide +kernel
theorem dX12_op_20 : decode cX12_op 20 = .ok (.ifCond .eq 28, 3) := by decide +kernel
theorem dX12_op_23 : decode cX12_op 23 = .ok (.iload 5, 2) := by decide +kernel
theorem dX12_op_25 : decode cX12_op 25 = .ok (.iconst 0, 1) := by decide +kernel
theorem dX12_op_26 : decode cX12_op 26 = .ok (.sipush 1000, 3) := by decide +kernel
theorem dX12_op_29 : decode cX12_op 29 = .ok (.invokestatic 381, 3) := by decide +kernel
theorem dX12_op_32 : decode cX12_op 32 = .ok (.ifCond .eq 16, 3) := by decide +kernel
theorem dX12_op_35 : decode cX12_op 35 = .ok (.iload 6, 2) := by decide +kernel
theorem dX12_op_37 : decode cX12_op 37 = .ok (.iload 5, 2) := by decide +kernel
theorem dX12_op_39 : decode cX12_op 39 = .ok (.sipush 1000, 3) := by decide +kernel
theorem dX12_op_42 : decode cX12_op 42 = .ok (.invokestatic 381, 3) := by decide +kernel
theorem dX12_op_45 : decode cX12_op 45 = .ok (.ifCond .ne 5, 3) := by decide +kernel
theorem dX12_op_48 : decode cX12_op 48 = .ok (.iconst (-1), 1) := by decide +kernel
theorem dX12_op_49 : decode cX12_op 49 = .ok (.ireturn, 1) := by decide +kernel
theorem dX12_op_50 : decode cX12_op 50 = .ok (.aload_n 0, 1) := by decide +kernel
theorem dX12_op_51 : decode cX12_op 51 = .ok (.getfield 342, 3) := by decide +kernel
theorem dX12_op_54 : decode cX12_op 54 = .ok (.iload_n 1, 1) := by decide +kernel
theorem dX12_op_55 : decode cX12_op 55 = .ok (.iaload, 1) := by decide +kernel
theorem dX12_op_56 : decode cX12_op 56 = .ok (.bipush 8, 2) := by decide +kernel
theorem dX12_op_58 : decode cX12_op 58 = .ok (.if_icmp .ne 6, 3) := by decide +kernel
theorem dX12_op_61 : decode cX12_op 61 = .ok (.bipush (-3), 2) := by decide +kernel
theorem dX12_op_63 : decode cX12_op 63 = .ok (.ireturn, 1) := by decide +kernel
theorem dX12_op_64 : decode cX12_op 64 = .ok (.bipush 8, 2) := by decide +kernel
theorem dX12_op_66 : decode cX12_op 66 = .ok (.iload_n 1, 1) := by decide +kernel
theorem dX12_op_67 : decode cX12_op 67 = .ok (.imul, 1) := by decide +kernel
theorem dX12_op_68 : decode cX12_op 68 = .ok (.aload_n 0, 1) := by decide +kernel
theorem dX12_op_69 : decode cX12_op 69 = .ok (.getfield 342, 3) := by decide +kernel
theorem dX12_op_72 : decode cX12_op 72 = .ok (.iload_n 1, 1) := by decide +kernel
theorem dX12_op_73 : decode cX12_op 73 = .ok (.iaload, 1) := by decide +kernel
theorem dX12_op_74 : decode cX12_op 74 = .ok (.iadd, 1) := by decide +kernel
theorem dX12_op_75 : decode cX12_op 75 = .ok (.istore 7, 2) := by decide +kernel
theorem dX12_op_77 : decode cX12_op 77 = .ok (.aload_n 0, 1) := by decide +kernel
theorem dX12_op_78 : decode cX12_op 78 = .ok (.getfield 345, 3) := by decide +kernel
theorem dX12_op_81 : decode cX12_op 81 = .ok (.iload 7, 2) := by decide +kernel
theorem dX12_op_83 : decode cX12_op 83 = .ok (.iload_n 2, 1) := by decide +kernel
theorem dX12_op_84 : decode cX12_op 84 = .ok (.iastore, 1) := by decide +kernel
theorem dX12_op_85 : decode cX12_op 85 = .ok (.aload_n 0, 1) := by decide +kernel
theorem dX12_op_86 : decode cX12_op 86 = .ok (.getfield 348, 3) := by decide +kernel
theorem dX12_op_89 : decode cX12_op 89 = .ok (.iload 7, 2) := by decide +kernel
theorem dX12_op_91 : decode cX12_op 91 = .ok (.iload_n 3, 1) := by decide +kernel
theorem dX12_op_92 : decode cX12_op 92 = .ok (.iastore, 1) := by decide +kernel
theorem dX12_op_93 : decode cX12_op 93 = .ok (.aload_n 0, 1) := by decide +kernel
theorem dX12_op_94 : decode cX12_op 94 = .ok (.getfield 351, 3) := by decide +kernel
theorem dX12_op_97 : decode cX12_op 97 = .ok (.iload 7, 2) := by decide +kernel
theorem dX12_op_99 : decode cX12_op 99 = .ok (.iload 4, 2) := by decide +kernel
theorem dX12_op_101 : decode cX12_op 101 = .ok (.iastore, 1) := by decide +kernel
theorem dX12_op_102 : decode cX12_op 102 = .ok (.aload_n 0, 1) := by decide +kernel
theorem dX12_op_103 : decode cX12_op 103 = .ok (.getfield 354, 3) := by decide +kernel
theorem dX12_op_106 : decode cX12_op 106 = .ok (.iload 7, 2) := by decide +kernel
theorem dX12_op_108 : decode cX12_op 108 = .ok (.iload 5, 2) := by decide +kernel
theorem dX12_op_110 : decode cX12_op 110 = .ok (.iastore, 1) := by decide +kernel
theorem dX12_op_111 : decode cX12_op 111 = .ok (.aload_n 0, 1) := by decide +kernel
theorem dX12_op_112 : decode cX12_op 112 = .ok (.getfield 357, 3) := by decide +kernel
theorem dX12_op_115 : decode cX12_op 115 = .ok (.iload 7, 2) := by decide +kernel
theorem dX12_op_117 : decode cX12_op 117 = .ok (.iload 6, 2) := by decide +kernel
theorem dX12_op_119 : decode cX12_op 119 = .ok (.iastore, 1) := by decide +kernel
theorem dX12_op_120 : decode cX12_op 120 = .ok (.aload_n 0, 1) := by decide +kernel
theorem dX12_op_121 : decode cX12_op 121 = .ok (.getfield 342, 3) := by decide +kernel
theorem dX12_op_124 : decode cX12_op 124 = .ok (.iload_n 1, 1) := by decide +kernel
theorem dX12_op_125 : decode cX12_op 125 = .ok (.dup2, 1) := by decide +kernel
theorem dX12_op_126 : decode cX12_op 126 = .ok (.iaload, 1) := by decide +kernel
theorem dX12_op_127 : decode cX12_op 127 = .ok (.iconst 1, 1) := by decide +kernel
theorem dX12_op_128 : decode cX12_op 128 = .ok (.iadd, 1) := by decide +kernel
theorem dX12_op_129 : decode cX12_op 129 = .ok (.iastore, 1) := by decide +kernel
theorem dX12_op_130 : decode cX12_op 130 = .ok (.aload_n 0, 1) := by decide +kernel
theorem dX12_op_131 : decode cX12_op 131 = .ok (.getfield 342, 3) := by decide +kernel
theorem dX12_op_134 : decode cX12_op 134 = .ok (.iload_n 1, 1) := by decide +kernel
theorem dX12_op_135 : decode cX12_op 135 = .ok (.iaload, 1) := by decide +kernel
theorem dX12_op_136 : decode cX12_op 136 = .ok (.ireturn, 1) := by decide +kernel
theorem dX12_answers_0 : decode cX12_answers 0 = .ok (.iconst 0, 1) := by decide +kernel
theorem dX12_answers_1 : decode cX12_answers 1 = .ok (.istore_n 3, 1) := by decide +kernel
theorem dX12_answers_2 : decode cX12_answers 2 = .ok (.iconst 0, 1) := by decide +kernel
theorem dX12_answers_3 : decode cX12_answers 3 = .ok (.istore 4, 2) := by decide +kernel
theorem dX12_answers_5 : decode cX12_answers 5 = .ok (.iconst 0, 1) := by decide +kernel
theorem dX12_answers_6 : decode cX12_answers 6 = .ok (.istore 5, 2) := by decide +kernel
theorem dX12_answers_8 : decode cX12_answers 8 = .ok (.iconst 1, 1) := by decide +kernel
theorem dX12_answers_9 : decode cX12_answers 9 = .ok (.istore 6, 2) := by decide +kernel
theorem dX12_answers_11 : decode cX12_answers 11 = .ok (.iconst 0, 1) := by decide +kernel
theorem dX12_answers_12 : decode cX12_answers 12 = .ok (.istore 7, 2) := by decide +kernel
theorem dX12_answers_14 : decode cX12_answers 14 = .ok (.iload 7, 2) := by decide +kernel
theorem dX12_answers_16 : decode cX12_answers 16 = .ok (.iload_n 2, 1) := by decide +kernel
theorem dX12_answers_17 : decode cX12_answers 17 = .ok (.if_icmp .ge 194, 3) := by decide +kernel
theorem dX12_answers_20 : decode cX12_answers 20 = .ok (.bipush 8, 2) := by decide +kernel
theorem dX12_answers_22 : decode cX12_answers 22 = .ok (.iload_n 1, 1) := by decide +kernel
theorem dX12_answers_23 : decode cX12_answers 23 = .ok (.imul, 1) := by decide +kernel
theorem dX12_answers_24 : decode cX12_answers 24 = .ok (.aload_n 0, 1) := by decide +kernel
theorem dX12_answers_25 : decode cX12_answers 25 = .ok (.getfield 360, 3) := by decide +kernel
theorem dX12_answers_28 : decode cX12_answers 28 = .ok (.iload 7, 2) := by decide +kernel
theorem dX12_answers_30 : decode cX12_answers 30 = .ok (.iaload, 1) := by decide +kernel
theorem dX12_answers_31 : decode cX12_answers 31 = .ok (.iadd, 1) := by decide +kernel
theorem dX12_answers_32 : decode cX12_answers 32 = .ok (.istore 8, 2) := by decide +kernel
theorem dX12_answers_34 : decode cX12_answers 34 = .ok (.iconst 0, 1) := by decide +kernel
theorem dX12_answers_35 : decode cX12_answers 35 = .ok (.istore 9, 2) := by decide +kernel
theorem dX12_answers_37 : decode cX12_answers 37 = .ok (.aload_n 0, 1) := by decide +kernel
theorem dX12_answers_38 : decode cX12_answers 38 = .ok (.getfield 339, 3) := by decide +kernel
theorem dX12_answers_41 : decode cX12_answers 41 = .ok (.iload_n 1, 1) := by decide +kernel
theorem dX12_answers_42 : decode cX12_answers 42 = .ok (.iaload, 1) := by decide +kernel
theorem dX12_answers_43 : decode cX12_answers 43 = .ok (.iconst 2, 1) := by decide +kernel
theorem dX12_answers_44 : decode cX12_answers 44 = .ok (.if_icmp .ne 73, 3) := by decide +kernel
theorem dX12_answers_47 : decode cX12_answers 47 = .ok (.aload_n 0, 1) := by decide +kernel
theorem dX12_answers_48 : decode cX12_answers 48 = .ok (.getfield 345, 3) := by decide +kernel
theorem dX12_answers_51 : decode cX12_answers 51 = .ok (.iload 8, 2) := by decide +kernel
theorem dX12_answers_53 : decode cX12_answers 53 = .ok (.iaload, 1) := by decide +kernel
theorem dX12_answers_54 : decode cX12_answers 54 = .ok (.ifCond .ne 23, 3) := by decide +kernel
theorem dX12_answers_57 : decode cX12_answers 57 = .ok (.aload_n 0, 1) := by decide +kernel
theorem dX12_answers_58 : decode cX12_answers 58 = .ok (.getfield 363, 3) := by decide +kernel
theorem dX12_answers_61 : decode cX12_answers 61 = .ok (.iload 5, 2) := by decide +kernel
theorem dX12_answers_63 : decode cX12_answers 63 = .ok (.aload_n 0, 1) := by decide +kernel
theorem dX12_answers_64 : decode cX12_answers 64 = .ok (.getfield 348, 3) := by decide +kernel
theorem dX12_answers_67 : decode cX12_answers 67 = .ok (.iload 8, 2) := by decide +kernel
theorem dX12_answers_69 : decode cX12_answers 69 = .ok (.iaload, 1) := by decide +kernel
theorem dX12_answers_70 : decode cX12_answers 70 = .ok (.iastore, 1) := by decide +kernel
theorem dX12_answers_71 : decode cX12_answers 71 = .ok (.iinc 5 1, 3) := by decide +kernel
theorem dX12_answers_74 : decode cX12_answers 74 = .ok (.goto 107, 3) := by decide +kernel
theorem dX12_answers_77 : decode cX12_answers 77 = .ok (.iload 4, 2) := by decide +kernel
theorem dX12_answers_79 : decode cX12_answers 79 = .ok (.iload 5, 2) := by decide +kernel
theorem dX12_answers_81 : decode cX12_answers 81 = .ok (.if_icmp .ne 7, 3) := by decide +kernel
theorem dX12_answers_84 : decode cX12_answers 84 = .ok (.iconst (-1), 1) := by decide +kernel
theorem dX12_answers_85 : decode cX12_answers 85 = .ok (.goto 10, 3) := by decide +kernel
theorem dX12_answers_88 : decode cX12_answers 88 = .ok (.aload_n 0, 1) := by decide +kernel
theorem dX12_answers_89 : decode cX12_answers 89 = .ok (.getfield 363, 3) := by decide +kernel
theorem dX12_answers_92 : decode cX12_answers 92 = .ok (.iload 4, 2) := by decide +kernel
theorem dX12_answers_94 : decode cX12_answers 94 = .ok (.iaload, 1) := by decide +kernel
theorem dX12_answers_95 : decode cX12_answers 95 = .ok (.istore 9, 2) := by decide +kernel
theorem dX12_answers_97 : decode cX12_answers 97 = .ok (.iload 4, 2) := by decide +kernel
theorem dX12_answers_99 : decode cX12_answers 99 = .ok (.iload 4, 2) := by decide +kernel
theorem dX12_answers_101 : decode cX12_answers 101 = .ok (.iload 5, 2) := by decide +kernel
theorem dX12_answers_103 : decode cX12_answers 103 = .ok (.if_icmp .ne 7, 3) := by decide +kernel
theorem dX12_answers_106 : decode cX12_answers 106 = .ok (.iconst 0, 1) := by decide +kernel
theorem dX12_answers_107 : decode cX12_answers 107 = .ok (.goto 4, 3) := by decide +kernel
theorem dX12_answers_110 : decode cX12_answers 110 = .ok (.iconst 1, 1) := by decide +kernel
theorem dX12_answers_111 : decode cX12_answers 111 = .ok (.iadd, 1) := by decide +kernel
theorem dX12_answers_112 : decode cX12_answers 112 = .ok (.istore 4, 2) := by decide +kernel
theorem dX12_answers_114 : decode cX12_answers 114 = .ok (.goto 67, 3) := by decide +kernel
theorem dX12_answers_117 : decode cX12_answers 117 = .ok (.aload_n 0, 1) := by decide +kernel
theorem dX12_answers_118 : decode cX12_answers 118 = .ok (.getfield 345, 3) := by decide +kernel
theorem dX12_answers_121 : decode cX12_answers 121 = .ok (.iload 8, 2) := by decide +kernel
theorem dX12_answers_123 : decode cX12_answers 123 = .ok (.iaload, 1) := by decide +kernel
theorem dX12_answers_124 : decode cX12_answers 124 = .ok (.iconst 1, 1) := by decide +kernel
theorem dX12_answers_125 : decode cX12_answers 125 = .ok (.if_icmp .ne 9, 3) := by decide +kernel
theorem dX12_answers_128 : decode cX12_answers 128 = .ok (.iload_n 3, 1) := by decide +kernel
theorem dX12_answers_129 : decode cX12_answers 129 = .ok (.istore 9, 2) := by decide +kernel
theorem dX12_answers_131 : decode cX12_answers 131 = .ok (.goto 50, 3) := by decide +kernel
theorem dX12_answers_134 : decode cX12_answers 134 = .ok (.aload_n 0, 1) := by decide +kernel
theorem dX12_answers_135 : decode cX12_answers 135 = .ok (.getfield 339, 3) := by decide +kernel
theorem dX12_answers_138 : decode cX12_answers 138 = .ok (.iload_n 1, 1) := by decide +kernel
theorem dX12_answers_139 : decode cX12_answers 139 = .ok (.iaload, 1) := by decide +kernel
theorem dX12_answers_140 : decode cX12_answers 140 = .ok (.iconst 1, 1) := by decide +kernel
theorem dX12_answers_141 : decode cX12_answers 141 = .ok (.if_icmp .ne 15, 3) := by decide +kernel
theorem dX12_answers_144 : decode cX12_answers 144 = .ok (.iload_n 3, 1) := by decide +kernel
theorem dX12_answers_145 : decode cX12_answers 145 = .ok (.aload_n 0, 1) := by decide +kernel
theorem dX12_answers_146 : decode cX12_answers 146 = .ok (.getfield 348, 3) := by decide +kernel
theorem dX12_answers_149 : decode cX12_answers 149 = .ok (.iload 8, 2) := by decide +kernel
theorem dX12_answers_151 : decode cX12_answers 151 = .ok (.iaload, 1) := by decide +kernel
theorem dX12_answers_152 : decode cX12_answers 152 = .ok (.iadd, 1) := by decide +kernel
theorem dX12_answers_153 : decode cX12_answers 153 = .ok (.goto 10, 3) := by decide +kernel
theorem dX12_answers_156 : decode cX12_answers 156 = .ok (.aload_n 0, 1) := by decide +kernel
theorem dX12_answers_157 : decode cX12_answers 157 = .ok (.getfield 348, 3) := by decide +kernel
theorem dX12_answers_160 : decode cX12_answers 160 = .ok (.iload 8, 2) := by decide +kernel
theorem dX12_answers_162 : decode cX12_answers 162 = .ok (.iaload, 1) := by decide +kernel
theorem dX12_answers_163 : decode cX12_answers 163 = .ok (.istore_n 3, 1) := by decide +kernel
theorem dX12_answers_164 : decode cX12_answers 164 = .ok (.aload_n 0, 1) := by decide +kernel
theorem dX12_answers_165 : decode cX12_answers 165 = .ok (.getfield 339, 3) := by decide +kernel
theorem dX12_answers_168 : decode cX12_answers 168 = .ok (.iload_n 1, 1) := by decide +kernel
theorem dX12_answers_169 : decode cX12_answers 169 = .ok (.iaload, 1) := by decide +kernel
theorem dX12_answers_170 : decode cX12_answers 170 = .ok (.iconst 1, 1) := by decide +kernel
theorem dX12_answers_171 : decode cX12_answers 171 = .ok (.if_icmp .ne 7, 3) := by decide +kernel
theorem dX12_answers_174 : decode cX12_answers 174 = .ok (.iload_n 3, 1) := by decide +kernel
theorem dX12_answers_175 : decode cX12_answers 175 = .ok (.goto 4, 3) := by decide +kernel
theorem dX12_answers_178 : decode cX12_answers 178 = .ok (.iconst 0, 1) := by decide +kernel
theorem dX12_answers_179 : decode cX12_answers 179 = .ok (.istore 9, 2) := by decide +kernel
theorem dX12_answers_181 : decode cX12_answers 181 = .ok (.iload 6, 2) := by decide +kernel
theorem dX12_answers_183 : decode cX12_answers 183 = .ok (.ifCond .eq 19, 3) := by decide +kernel
theorem dX12_answers_186 : decode cX12_answers 186 = .ok (.iload 9, 2) := by decide +kernel
theorem dX12_answers_188 : decode cX12_answers 188 = .ok (.aload_n 0, 1) := by decide +kernel
theorem dX12_answers_189 : decode cX12_answers 189 = .ok (.getfield 351, 3) := by decide +kernel
theorem dX12_answers_192 : decode cX12_answers 192 = .ok (.iload 8, 2) := by decide +kernel
theorem dX12_answers_194 : decode cX12_answers 194 = .ok (.iaload, 1) := by decide +kernel
theorem dX12_answers_195 : decode cX12_answers 195 = .ok (.if_icmp .ne 7, 3) := by decide +kernel
theorem dX12_answers_198 : decode cX12_answers 198 = .ok (.iconst 1, 1) := by decide +kernel
theorem dX12_answers_199 : decode cX12_answers 199 = .ok (.goto 4, 3) := by decide +kernel
theorem dX12_answers_202 : decode cX12_answers 202 = .ok (.iconst 0, 1) := by decide +kernel
theorem dX12_answers_203 : decode cX12_answers 203 = .ok (.istore 6, 2) := by decide +kernel
theorem dX12_answers_205 : decode cX12_answers 205 = .ok (.iinc 7 1, 3) := by decide +kernel
theorem dX12_answers_208 : decode cX12_answers 208 = .ok (.goto (-194), 3) := by decide +kernel
theorem dX12_answers_211 : decode cX12_answers 211 = .ok (.iload 6, 2) := by decide +kernel
theorem dX12_answers_213 : decode cX12_answers 213 = .ok (.ireturn, 1) := by decide +kernel
theorem dX12_mayStand_0 : decode cX12_mayStand 0 = .ok (.iconst 1, 1) := by decide +kernel
theorem dX12_mayStand_1 : decode cX12_mayStand 1 = .ok (.istore 4, 2) := by decide +kernel
theorem dX12_mayStand_3 : decode cX12_mayStand 3 = .ok (.iconst 0, 1) := by decide +kernel
theorem dX12_mayStand_4 : decode cX12_mayStand 4 = .ok (.istore 5, 2) := by decide +kernel
theorem dX12_mayStand_6 : decode cX12_mayStand 6 = .ok (.iload 5, 2) := by decide +kernel
theorem dX12_mayStand_8 : decode cX12_mayStand 8 = .ok (.iload_n 2, 1) := by decide +kernel
theorem dX12_mayStand_9 : decode cX12_mayStand 9 = .ok (.if_icmp .ge 32, 3) := by decide +kernel
theorem dX12_mayStand_12 : decode cX12_mayStand 12 = .ok (.iload 4, 2) := by decide +kernel
theorem dX12_mayStand_14 : decode cX12_mayStand 14 = .ok (.ifCond .eq 18, 3) := by decide +kernel
theorem dX12_mayStand_17 : decode cX12_mayStand 17 = .ok (.aload_n 0, 1) := by decide +kernel
theorem dX12_mayStand_18 : decode cX12_mayStand 18 = .ok (.getfield 360, 3) := by decide +kernel
theorem dX12_mayStand_21 : decode cX12_mayStand 21 = .ok (.iload 5, 2) := by decide +kernel
theorem dX12_mayStand_23 : decode cX12_mayStand 23 = .ok (.iaload, 1) := by decide +kernel
theorem dX12_mayStand_24 : decode cX12_mayStand 24 = .ok (.iload_n 3, 1) := by decide +kernel
theorem dX12_mayStand_25 : decode cX12_mayStand 25 = .ok (.if_icmp .eq 7, 3) := by decide +kernel
theorem dX12_mayStand_28 : decode cX12_mayStand 28 = .ok (.iconst 1, 1) := by decide +kernel
theorem dX12_mayStand_29 : decode cX12_mayStand 29 = .ok (.goto 4, 3) := by decide +kernel
theorem dX12_mayStand_32 : decode cX12_mayStand 32 = .ok (.iconst 0, 1) := by decide +kernel
theorem dX12_mayStand_33 : decode cX12_mayStand 33 = .ok (.istore 4, 2) := by decide +kernel
theorem dX12_mayStand_35 : decode cX12_mayStand 35 = .ok (.iinc 5 1, 3) := by decide +kernel
theorem dX12_mayStand_38 : decode cX12_mayStand 38 = .ok (.goto (-32), 3) := by decide +kernel
theorem dX12_mayStand_41 : decode cX12_mayStand 41 = .ok (.iconst 0, 1) := by decide +kernel
theorem dX12_mayStand_42 : decode cX12_mayStand 42 = .ok (.istore 5, 2) := by decide +kernel
theorem dX12_mayStand_44 : decode cX12_mayStand 44 = .ok (.iload 5, 2) := by decide +kernel
theorem dX12_mayStand_46 : decode cX12_mayStand 46 = .ok (.aload_n 0, 1) := by decide +kernel
theorem dX12_mayStand_47 : decode cX12_mayStand 47 = .ok (.getfield 342, 3) := by decide +kernel
theorem dX12_mayStand_50 : decode cX12_mayStand 50 = .ok (.iload_n 1, 1) := by decide +kernel
theorem dX12_mayStand_51 : decode cX12_mayStand 51 = .ok (.iaload, 1) := by decide +kernel
theorem dX12_mayStand_52 : decode cX12_mayStand 52 = .ok (.if_icmp .ge 100, 3) := by decide +kernel
theorem dX12_mayStand_55 : decode cX12_mayStand 55 = .ok (.iload 4, 2) := by decide +kernel
theorem dX12_mayStand_57 : decode cX12_mayStand 57 = .ok (.ifCond .eq 95, 3) := by decide +kernel
theorem dX12_mayStand_60 : decode cX12_mayStand 60 = .ok (.iconst 0, 1) := by decide +kernel
theorem dX12_mayStand_61 : decode cX12_mayStand 61 = .ok (.istore 6, 2) := by decide +kernel
theorem dX12_mayStand_63 : decode cX12_mayStand 63 = .ok (.iconst 0, 1) := by decide +kernel
theorem dX12_mayStand_64 : decode cX12_mayStand 64 = .ok (.istore 7, 2) := by decide +kernel
theorem dX12_mayStand_66 : decode cX12_mayStand 66 = .ok (.iload 7, 2) := by decide +kernel
theorem dX12_mayStand_68 : decode cX12_mayStand 68 = .ok (.iload_n 2, 1) := by decide +kernel
theorem dX12_mayStand_69 : decode cX12_mayStand 69 = .ok (.if_icmp .ge 33, 3) := by decide +kernel
theorem dX12_mayStand_72 : decode cX12_mayStand 72 = .ok (.iload 6, 2) := by decide +kernel
theorem dX12_mayStand_74 : decode cX12_mayStand 74 = .ok (.ifCond .ne 15, 3) := by decide +kernel
theorem dX12_mayStand_77 : decode cX12_mayStand 77 = .ok (.aload_n 0, 1) := by decide +kernel
theorem dX12_mayStand_78 : decode cX12_mayStand 78 = .ok (.getfield 360, 3) := by decide +kernel
theorem dX12_mayStand_81 : decode cX12_mayStand 81 = .ok (.iload 7, 2) := by decide +kernel
theorem dX12_mayStand_83 : decode cX12_mayStand 83 = .ok (.iaload, 1) := by decide +kernel
theorem dX12_mayStand_84 : decode cX12_mayStand 84 = .ok (.iload 5, 2) := by decide +kernel
theorem dX12_mayStand_86 : decode cX12_mayStand 86 = .ok (.if_icmp .ne 7, 3) := by decide +kernel
theorem dX12_mayStand_89 : decode cX12_mayStand 89 = .ok (.iconst 1, 1) := by decide +kernel
theorem dX12_mayStand_90 : decode cX12_mayStand 90 = .ok (.goto 4, 3) := by decide +kernel
theorem dX12_mayStand_93 : decode cX12_mayStand 93 = .ok (.iconst 0, 1) := by decide +kernel
theorem dX12_mayStand_94 : decode cX12_mayStand 94 = .ok (.istore 6, 2) := by decide +kernel
theorem dX12_mayStand_96 : decode cX12_mayStand 96 = .ok (.iinc 7 1, 3) := by decide +kernel
theorem dX12_mayStand_99 : decode cX12_mayStand 99 = .ok (.goto (-33), 3) := by decide +kernel
theorem dX12_mayStand_102 : decode cX12_mayStand 102 = .ok (.iload 6, 2) := by decide +kernel
theorem dX12_mayStand_104 : decode cX12_mayStand 104 = .ok (.ifCond .ne 35, 3) := by decide +kernel
theorem dX12_mayStand_107 : decode cX12_mayStand 107 = .ok (.iload 5, 2) := by decide +kernel
theorem dX12_mayStand_109 : decode cX12_mayStand 109 = .ok (.iload_n 3, 1) := by decide +kernel
theorem dX12_mayStand_110 : decode cX12_mayStand 110 = .ok (.if_icmp .eq 29, 3) := by decide +kernel
theorem dX12_mayStand_113 : decode cX12_mayStand 113 = .ok (.aload_n 0, 1) := by decide +kernel
theorem dX12_mayStand_114 : decode cX12_mayStand 114 = .ok (.getfield 357, 3) := by decide +kernel
theorem dX12_mayStand_117 : decode cX12_mayStand 117 = .ok (.bipush 8, 2) := by decide +kernel
theorem dX12_mayStand_119 : decode cX12_mayStand 119 = .ok (.iload_n 1, 1) := by decide +kernel
theorem dX12_mayStand_120 : decode cX12_mayStand 120 = .ok (.imul, 1) := by decide +kernel
theorem dX12_mayStand_121 : decode cX12_mayStand 121 = .ok (.iload 5, 2) := by decide +kernel
theorem dX12_mayStand_123 : decode cX12_mayStand 123 = .ok (.iadd, 1) := by decide +kernel
theorem dX12_mayStand_124 : decode cX12_mayStand 124 = .ok (.iaload, 1) := by decide +kernel
theorem dX12_mayStand_125 : decode cX12_mayStand 125 = .ok (.aload_n 0, 1) := by decide +kernel
theorem dX12_mayStand_126 : decode cX12_mayStand 126 = .ok (.getfield 354, 3) := by decide +kernel
theorem dX12_mayStand_129 : decode cX12_mayStand 129 = .ok (.bipush 8, 2) := by decide +kernel
theorem dX12_mayStand_131 : decode cX12_mayStand 131 = .ok (.iload_n 1, 1) := by decide +kernel
theorem dX12_mayStand_132 : decode cX12_mayStand 132 = .ok (.imul, 1) := by decide +kernel
theorem dX12_mayStand_133 : decode cX12_mayStand 133 = .ok (.iload_n 3, 1) := by decide +kernel
theorem dX12_mayStand_134 : decode cX12_mayStand 134 = .ok (.iadd, 1) := by decide +kernel
theorem dX12_mayStand_135 : decode cX12_mayStand 135 = .ok (.iaload, 1) := by decide +kernel
theorem dX12_mayStand_136 : decode cX12_mayStand 136 = .ok (.if_icmp .lt 7, 3) := by decide +kernel
theorem dX12_mayStand_139 : decode cX12_mayStand 139 = .ok (.iconst 1, 1) := by decide +kernel
theorem dX12_mayStand_140 : decode cX12_mayStand 140 = .ok (.goto 4, 3) := by decide +kernel
theorem dX12_mayStand_143 : decode cX12_mayStand 143 = .ok (.iconst 0, 1) := by decide +kernel
theorem dX12_mayStand_144 : decode cX12_mayStand 144 = .ok (.istore 4, 2) := by decide +kernel
theorem dX12_mayStand_146 : decode cX12_mayStand 146 = .ok (.iinc 5 1, 3) := by decide +kernel
theorem dX12_mayStand_149 : decode cX12_mayStand 149 = .ok (.goto (-105), 3) := by decide +kernel
theorem dX12_mayStand_152 : decode cX12_mayStand 152 = .ok (.iload 4, 2) := by decide +kernel
theorem dX12_mayStand_154 : decode cX12_mayStand 154 = .ok (.ireturn, 1) := by decide +kernel
theorem dX12_rows_0 : decode cX12_rows 0 = .ok (.iload_n 2, 1) := by decide +kernel
theorem dX12_rows_1 : decode cX12_rows 1 = .ok (.aload_n 0, 1) := by decide +kernel
theorem dX12_rows_2 : decode cX12_rows 2 = .ok (.getfield 342, 3) := by decide +kernel
theorem dX12_rows_5 : decode cX12_rows 5 = .ok (.iload_n 1, 1) := by decide +kernel
theorem dX12_rows_6 : decode cX12_rows 6 = .ok (.iaload, 1) := by decide +kernel
theorem dX12_rows_7 : decode cX12_rows 7 = .ok (.if_icmp .ne 5, 3) := by decide +kernel
theorem dX12_rows_10 : decode cX12_rows 10 = .ok (.iconst 1, 1) := by decide +kernel
theorem dX12_rows_11 : decode cX12_rows 11 = .ok (.ireturn, 1) := by decide +kernel
theorem dX12_rows_12 : decode cX12_rows 12 = .ok (.iconst 0, 1) := by decide +kernel
theorem dX12_rows_13 : decode cX12_rows 13 = .ok (.istore_n 3, 1) := by decide +kernel
theorem dX12_rows_14 : decode cX12_rows 14 = .ok (.iload_n 3, 1) := by decide +kernel
theorem dX12_rows_15 : decode cX12_rows 15 = .ok (.aload_n 0, 1) := by decide +kernel
theorem dX12_rows_16 : decode cX12_rows 16 = .ok (.getfield 342, 3) := by decide +kernel
theorem dX12_rows_19 : decode cX12_rows 19 = .ok (.iload_n 1, 1) := by decide +kernel
theorem dX12_rows_20 : decode cX12_rows 20 = .ok (.iaload, 1) := by decide +kernel
theorem dX12_rows_21 : decode cX12_rows 21 = .ok (.if_icmp .ge 50, 3) := by decide +kernel
theorem dX12_rows_24 : decode cX12_rows 24 = .ok (.aload_n 0, 1) := by decide +kernel
theorem dX12_rows_25 : decode cX12_rows 25 = .ok (.iload_n 1, 1) := by decide +kernel
theorem dX12_rows_26 : decode cX12_rows 26 = .ok (.iload_n 2, 1) := by decide +kernel
theorem dX12_rows_27 : decode cX12_rows 27 = .ok (.iload_n 3, 1) := by decide +kernel
theorem dX12_rows_28 : decode cX12_rows 28 = .ok (.invokevirtual 819, 3) := by decide +kernel
theorem dX12_rows_31 : decode cX12_rows 31 = .ok (.ifCond .eq 34, 3) := by decide +kernel
theorem dX12_rows_34 : decode cX12_rows 34 = .ok (.aload_n 0, 1) := by decide +kernel
theorem dX12_rows_35 : decode cX12_rows 35 = .ok (.getfield 360, 3) := by decide +kernel
theorem dX12_rows_38 : decode cX12_rows 38 = .ok (.iload_n 2, 1) := by decide +kernel
theorem dX12_rows_39 : decode cX12_rows 39 = .ok (.iload_n 3, 1) := by decide +kernel
theorem dX12_rows_40 : decode cX12_rows 40 = .ok (.iastore, 1) := by decide +kernel
theorem dX12_rows_41 : decode cX12_rows 41 = .ok (.aload_n 0, 1) := by decide +kernel
theorem dX12_rows_42 : decode cX12_rows 42 = .ok (.iload_n 1, 1) := by decide +kernel
theorem dX12_rows_43 : decode cX12_rows 43 = .ok (.iload_n 2, 1) := by decide +kernel
theorem dX12_rows_44 : decode cX12_rows 44 = .ok (.iconst 1, 1) := by decide +kernel
theorem dX12_rows_45 : decode cX12_rows 45 = .ok (.iadd, 1) := by decide +kernel
theorem dX12_rows_46 : decode cX12_rows 46 = .ok (.invokevirtual 822, 3) := by decide +kernel
theorem dX12_rows_49 : decode cX12_rows 49 = .ok (.ifCond .eq 16, 3) := by decide +kernel
theorem dX12_rows_52 : decode cX12_rows 52 = .ok (.aload_n 0, 1) := by decide +kernel
theorem dX12_rows_53 : decode cX12_rows 53 = .ok (.iload_n 1, 1) := by decide +kernel
theorem dX12_rows_54 : decode cX12_rows 54 = .ok (.iload_n 2, 1) := by decide +kernel
theorem dX12_rows_55 : decode cX12_rows 55 = .ok (.iconst 1, 1) := by decide +kernel
theorem dX12_rows_56 : decode cX12_rows 56 = .ok (.iadd, 1) := by decide +kernel
theorem dX12_rows_57 : decode cX12_rows 57 = .ok (.invokevirtual 825, 3) := by decide +kernel
theorem dX12_rows_60 : decode cX12_rows 60 = .ok (.ifCond .eq 5, 3) := by decide +kernel
theorem dX12_rows_63 : decode cX12_rows 63 = .ok (.iconst 1, 1) := by decide +kernel
theorem dX12_rows_64 : decode cX12_rows 64 = .ok (.ireturn, 1) := by decide +kernel
theorem dX12_rows_65 : decode cX12_rows 65 = .ok (.iinc 3 1, 3) := by decide +kernel
theorem dX12_rows_68 : decode cX12_rows 68 = .ok (.goto (-54), 3) := by decide +kernel
theorem dX12_rows_71 : decode cX12_rows 71 = .ok (.iconst 0, 1) := by decide +kernel
theorem dX12_rows_72 : decode cX12_rows 72 = .ok (.ireturn, 1) := by decide +kernel
theorem dX12_linear_0 : decode cX12_linear 0 = .ok (.iload_n 1, 1) := by decide +kernel
theorem dX12_linear_1 : decode cX12_linear 1 = .ok (.iconst 0, 1) := by decide +kernel
theorem dX12_linear_2 : decode cX12_linear 2 = .ok (.aload_n 0, 1) := by decide +kernel
theorem dX12_linear_3 : decode cX12_linear 3 = .ok (.getfield 816, 3) := by decide +kernel
theorem dX12_linear_6 : decode cX12_linear 6 = .ok (.iconst 1, 1) := by decide +kernel
theorem dX12_linear_7 : decode cX12_linear 7 = .ok (.isub, 1) := by decide +kernel
theorem dX12_linear_8 : decode cX12_linear 8 = .ok (.invokestatic 381, 3) := by decide +kernel
theorem dX12_linear_11 : decode cX12_linear 11 = .ok (.ifCond .ne 7, 3) := by decide +kernel
theorem dX12_linear_14 : decode cX12_linear 14 = .ok (.iconst (-1), 1) := by decide +kernel
theorem dX12_linear_15 : decode cX12_linear 15 = .ok (.goto 12, 3) := by decide +kernel
theorem dX12_linear_18 : decode cX12_linear 18 = .ok (.aload_n 0, 1) := by decide +kernel
theorem dX12_linear_19 : decode cX12_linear 19 = .ok (.iload_n 1, 1) := by decide +kernel
theorem dX12_linear_20 : decode cX12_linear 20 = .ok (.iconst 0, 1) := by decide +kernel
theorem dX12_linear_21 : decode cX12_linear 21 = .ok (.invokevirtual 825, 3) := by decide +kernel
theorem dX12_linear_24 : decode cX12_linear 24 = .ok (.invokestatic 677, 3) := by decide +kernel
theorem dX12_linear_27 : decode cX12_linear 27 = .ok (.ireturn, 1) := by decide +kernel
theorem dX12_place_0 : decode cX12_place 0 = .ok (.iload_n 1, 1) := by decide +kernel
theorem dX12_place_1 : decode cX12_place 1 = .ok (.iconst 0, 1) := by decide +kernel
theorem dX12_place_2 : decode cX12_place 2 = .ok (.aload_n 0, 1) := by decide +kernel
theorem dX12_place_3 : decode cX12_place 3 = .ok (.getfield 816, 3) := by decide +kernel
theorem dX12_place_6 : decode cX12_place 6 = .ok (.iconst 1, 1) := by decide +kernel
theorem dX12_place_7 : decode cX12_place 7 = .ok (.isub, 1) := by decide +kernel
theorem dX12_place_8 : decode cX12_place 8 = .ok (.invokestatic 381, 3) := by decide +kernel
theorem dX12_place_11 : decode cX12_place 11 = .ok (.ifCond .eq 19, 3) := by decide +kernel
theorem dX12_place_14 : decode cX12_place 14 = .ok (.iload_n 2, 1) := by decide +kernel
theorem dX12_place_15 : decode cX12_place 15 = .ok (.iconst 0, 1) := by decide +kernel
theorem dX12_place_16 : decode cX12_place 16 = .ok (.aload_n 0, 1) := by decide +kernel
theorem dX12_place_17 : decode cX12_place 17 = .ok (.getfield 342, 3) := by decide +kernel
theorem dX12_place_20 : decode cX12_place 20 = .ok (.iload_n 1, 1) := by decide +kernel
theorem dX12_place_21 : decode cX12_place 21 = .ok (.iaload, 1) := by decide +kernel
theorem dX12_place_22 : decode cX12_place 22 = .ok (.iconst 1, 1) := by decide +kernel
theorem dX12_place_23 : decode cX12_place 23 = .ok (.isub, 1) := by decide +kernel
theorem dX12_place_24 : decode cX12_place 24 = .ok (.invokestatic 381, 3) := by decide +kernel
theorem dX12_place_27 : decode cX12_place 27 = .ok (.ifCond .ne 5, 3) := by decide +kernel
theorem dX12_place_30 : decode cX12_place 30 = .ok (.iconst (-1), 1) := by decide +kernel
theorem dX12_place_31 : decode cX12_place 31 = .ok (.ireturn, 1) := by decide +kernel
theorem dX12_place_32 : decode cX12_place 32 = .ok (.aload_n 0, 1) := by decide +kernel
theorem dX12_place_33 : decode cX12_place 33 = .ok (.iload_n 1, 1) := by decide +kernel
theorem dX12_place_34 : decode cX12_place 34 = .ok (.iconst 0, 1) := by decide +kernel
theorem dX12_place_35 : decode cX12_place 35 = .ok (.invokevirtual 825, 3) := by decide +kernel
theorem dX12_place_38 : decode cX12_place 38 = .ok (.ifCond .eq 12, 3) := by decide +kernel
theorem dX12_place_41 : decode cX12_place 41 = .ok (.aload_n 0, 1) := by decide +kernel
theorem dX12_place_42 : decode cX12_place 42 = .ok (.getfield 360, 3) := by decide +kernel
theorem dX12_place_45 : decode cX12_place 45 = .ok (.iload_n 2, 1) := by decide +kernel
theorem dX12_place_46 : decode cX12_place 46 = .ok (.iaload, 1) := by decide +kernel
theorem dX12_place_47 : decode cX12_place 47 = .ok (.goto 5, 3) := by decide +kernel
theorem dX12_place_50 : decode cX12_place 50 = .ok (.bipush (-2), 2) := by decide +kernel
theorem dX12_place_52 : decode cX12_place 52 = .ok (.ireturn, 1) := by decide +kernel
theorem dX12_common_0 : decode cX12_common 0 = .ok (.lload_n 0, 1) := by decide +kernel
theorem dX12_common_1 : decode cX12_common 1 = .ok (.lstore 4, 2) := by decide +kernel
theorem dX12_common_3 : decode cX12_common 3 = .ok (.lload_n 2, 1) := by decide +kernel
theorem dX12_common_4 : decode cX12_common 4 = .ok (.lstore 6, 2) := by decide +kernel
theorem dX12_common_6 : decode cX12_common 6 = .ok (.lload 6, 2) := by decide +kernel
theorem dX12_common_8 : decode cX12_common 8 = .ok (.lconst 0, 1) := by decide +kernel
theorem dX12_common_9 : decode cX12_common 9 = .ok (.lcmp, 1) := by decide +kernel
theorem dX12_common_10 : decode cX12_common 10 = .ok (.ifCond .eq 21, 3) := by decide +kernel
theorem dX12_common_13 : decode cX12_common 13 = .ok (.lload 4, 2) := by decide +kernel
theorem dX12_common_15 : decode cX12_common 15 = .ok (.lload 6, 2) := by decide +kernel
theorem dX12_common_17 : decode cX12_common 17 = .ok (.lrem, 1) := by decide +kernel
theorem dX12_common_18 : decode cX12_common 18 = .ok (.lstore 8, 2) := by decide +kernel
theorem dX12_common_20 : decode cX12_common 20 = .ok (.lload 6, 2) := by decide +kernel
theorem dX12_common_22 : decode cX12_common 22 = .ok (.lstore 4, 2) := by decide +kernel
theorem dX12_common_24 : decode cX12_common 24 = .ok (.lload 8, 2) := by decide +kernel
theorem dX12_common_26 : decode cX12_common 26 = .ok (.lstore 6, 2) := by decide +kernel
theorem dX12_common_28 : decode cX12_common 28 = .ok (.goto (-22), 3) := by decide +kernel
theorem dX12_common_31 : decode cX12_common 31 = .ok (.lload 4, 2) := by decide +kernel
theorem dX12_common_33 : decode cX12_common 33 = .ok (.lreturn, 1) := by decide +kernel
theorem dX12_luck_0 : decode cX12_luck 0 = .ok (.aload_n 0, 1) := by decide +kernel
theorem dX12_luck_1 : decode cX12_luck 1 = .ok (.iload_n 1, 1) := by decide +kernel
theorem dX12_luck_2 : decode cX12_luck 2 = .ok (.iload_n 2, 1) := by decide +kernel
theorem dX12_luck_3 : decode cX12_luck 3 = .ok (.invokevirtual 747, 3) := by decide +kernel
theorem dX12_luck_6 : decode cX12_luck 6 = .ok (.ifCond .ne 5, 3) := by decide +kernel
theorem dX12_luck_9 : decode cX12_luck 9 = .ok (.iconst (-1), 1) := by decide +kernel
theorem dX12_luck_10 : decode cX12_luck 10 = .ok (.ireturn, 1) := by decide +kernel
theorem dX12_luck_11 : decode cX12_luck 11 = .ok (.aload_n 0, 1) := by decide +kernel
theorem dX12_luck_12 : decode cX12_luck 12 = .ok (.sipush 20000, 3) := by decide +kernel
theorem dX12_luck_15 : decode cX12_luck 15 = .ok (.putfield 644, 3) := by decide +kernel
theorem dX12_luck_18 : decode cX12_luck 18 = .ok (.aload_n 0, 1) := by decide +kernel
theorem dX12_luck_19 : decode cX12_luck 19 = .ok (.iconst 0, 1) := by decide +kernel
theorem dX12_luck_20 : decode cX12_luck 20 = .ok (.putfield 647, 3) := by decide +kernel
theorem dX12_luck_23 : decode cX12_luck 23 = .ok (.aload_n 0, 1) := by decide +kernel
theorem dX12_luck_24 : decode cX12_luck 24 = .ok (.iconst 1, 1) := by decide +kernel
theorem dX12_luck_25 : decode cX12_luck 25 = .ok (.putfield 682, 3) := by decide +kernel
theorem dX12_luck_28 : decode cX12_luck 28 = .ok (.aload_n 0, 1) := by decide +kernel
theorem dX12_luck_29 : decode cX12_luck 29 = .ok (.iconst 0, 1) := by decide +kernel
theorem dX12_luck_30 : decode cX12_luck 30 = .ok (.putfield 688, 3) := by decide +kernel
theorem dX12_luck_33 : decode cX12_luck 33 = .ok (.iconst 0, 1) := by decide +kernel
theorem dX12_luck_34 : decode cX12_luck 34 = .ok (.istore_n 3, 1) := by decide +kernel
theorem dX12_luck_35 : decode cX12_luck 35 = .ok (.lconst 0, 1) := by decide +kernel
theorem dX12_luck_36 : decode cX12_luck 36 = .ok (.lstore 4, 2) := by decide +kernel
theorem dX12_luck_38 : decode cX12_luck 38 = .ok (.lconst 1, 1) := by decide +kernel
theorem dX12_luck_39 : decode cX12_luck 39 = .ok (.lstore 6, 2) := by decide +kernel
theorem dX12_luck_41 : decode cX12_luck 41 = .ok (.iconst 0, 1) := by decide +kernel
theorem dX12_luck_42 : decode cX12_luck 42 = .ok (.istore 8, 2) := by decide +kernel
theorem dX12_luck_44 : decode cX12_luck 44 = .ok (.iconst 1, 1) := by decide +kernel
theorem dX12_luck_45 : decode cX12_luck 45 = .ok (.istore 9, 2) := by decide +kernel
theorem dX12_luck_47 : decode cX12_luck 47 = .ok (.iload 9, 2) := by decide +kernel
theorem dX12_luck_49 : decode cX12_luck 49 = .ok (.ifCond .eq 300, 3) := by decide +kernel
theorem dX12_luck_52 : decode cX12_luck 52 = .ok (.aload_n 0, 1) := by decide +kernel
theorem dX12_luck_53 : decode cX12_luck 53 = .ok (.getfield 647, 3) := by decide +kernel
theorem dX12_luck_56 : decode cX12_luck 56 = .ok (.ifCond .ne 293, 3) := by decide +kernel
theorem dX12_luck_59 : decode cX12_luck 59 = .ok (.aload_n 0, 1) := by decide +kernel
theorem dX12_luck_60 : decode cX12_luck 60 = .ok (.iload_n 1, 1) := by decide +kernel
theorem dX12_luck_61 : decode cX12_luck 61 = .ok (.iconst (-1), 1) := by decide +kernel
theorem dX12_luck_62 : decode cX12_luck 62 = .ok (.invokevirtual 738, 3) := by decide +kernel
theorem dX12_luck_65 : decode cX12_luck 65 = .ok (.aload_n 0, 1) := by decide +kernel
theorem dX12_luck_66 : decode cX12_luck 66 = .ok (.iload_n 2, 1) := by decide +kernel
theorem dX12_luck_67 : decode cX12_luck 67 = .ok (.invokevirtual 744, 3) := by decide +kernel
theorem dX12_luck_70 : decode cX12_luck 70 = .ok (.iinc 3 1, 3) := by decide +kernel
theorem dX12_luck_73 : decode cX12_luck 73 = .ok (.aload_n 0, 1) := by decide +kernel
theorem dX12_luck_74 : decode cX12_luck 74 = .ok (.getfield 717, 3) := by decide +kernel
theorem dX12_luck_77 : decode cX12_luck 77 = .ok (.iconst 1, 1) := by decide +kernel
theorem dX12_luck_78 : decode cX12_luck 78 = .ok (.if_icmp .ne 164, 3) := by decide +kernel
theorem dX12_luck_81 : decode cX12_luck 81 = .ok (.iload 8, 2) := by decide +kernel
theorem dX12_luck_83 : decode cX12_luck 83 = .ok (.ifCond .ne 159, 3) := by decide +kernel
theorem dX12_luck_86 : decode cX12_luck 86 = .ok (.aload_n 0, 1) := by decide +kernel
theorem dX12_luck_87 : decode cX12_luck 87 = .ok (.getfield 647, 3) := by decide +kernel
theorem dX12_luck_90 : decode cX12_luck 90 = .ok (.ifCond .ne 152, 3) := by decide +kernel
theorem dX12_luck_93 : decode cX12_luck 93 = .ok (.lconst 1, 1) := by decide +kernel
theorem dX12_luck_94 : decode cX12_luck 94 = .ok (.lstore 10, 2) := by decide +kernel
theorem dX12_luck_96 : decode cX12_luck 96 = .ok (.iconst 0, 1) := by decide +kernel
theorem dX12_luck_97 : decode cX12_luck 97 = .ok (.istore 12, 2) := by decide +kernel
theorem dX12_luck_99 : decode cX12_luck 99 = .ok (.iload 12, 2) := by decide +kernel
theorem dX12_luck_101 : decode cX12_luck 101 = .ok (.aload_n 0, 1) := by decide +kernel
theorem dX12_luck_102 : decode cX12_luck 102 = .ok (.getfield 685, 3) := by decide +kernel
theorem dX12_luck_105 : decode cX12_luck 105 = .ok (.if_icmp .ge 36, 3) := by decide +kernel
theorem dX12_luck_108 : decode cX12_luck 108 = .ok (.lload 10, 2) := by decide +kernel
theorem dX12_luck_110 : decode cX12_luck 110 = .ok (.ldc2_w 828, 3) := by decide +kernel
theorem dX12_luck_113 : decode cX12_luck 113 = .ok (.lcmp, 1) := by decide +kernel
theorem dX12_luck_114 : decode cX12_luck 114 = .ok (.ifCond .le 8, 3) := by decide +kernel
theorem dX12_luck_117 : decode cX12_luck 117 = .ok (.lload 10, 2) := by decide +kernel
theorem dX12_luck_119 : decode cX12_luck 119 = .ok (.goto 14, 3) := by decide +kernel
theorem dX12_luck_122 : decode cX12_luck 122 = .ok (.lload 10, 2) := by decide +kernel
theorem dX12_luck_124 : decode cX12_luck 124 = .ok (.aload_n 0, 1) := by decide +kernel
theorem dX12_luck_125 : decode cX12_luck 125 = .ok (.getfield 261, 3) := by decide +kernel
theorem dX12_luck_128 : decode cX12_luck 128 = .ok (.iload 12, 2) := by decide +kernel
theorem dX12_luck_130 : decode cX12_luck 130 = .ok (.iaload, 1) := by decide +kernel
theorem dX12_luck_131 : decode cX12_luck 131 = .ok (.i2l, 1) := by decide +kernel
theorem dX12_luck_132 : decode cX12_luck 132 = .ok (.lmul, 1) := by decide +kernel
theorem dX12_luck_133 : decode cX12_luck 133 = .ok (.lstore 10, 2) := by decide +kernel
theorem dX12_luck_135 : decode cX12_luck 135 = .ok (.iinc 12 1, 3) := by decide +kernel
theorem dX12_luck_138 : decode cX12_luck 138 = .ok (.goto (-39), 3) := by decide +kernel
theorem dX12_luck_141 : decode cX12_luck 141 = .ok (.lload 10, 2) := by decide +kernel
theorem dX12_luck_143 : decode cX12_luck 143 = .ok (.ldc2_w 828, 3) := by decide +kernel
theorem dX12_luck_146 : decode cX12_luck 146 = .ok (.lcmp, 1) := by decide +kernel
theorem dX12_luck_147 : decode cX12_luck 147 = .ok (.ifCond .le 7, 3) := by decide +kernel
theorem dX12_luck_150 : decode cX12_luck 150 = .ok (.iconst 1, 1) := by decide +kernel
theorem dX12_luck_151 : decode cX12_luck 151 = .ok (.goto 4, 3) := by decide +kernel
theorem dX12_luck_154 : decode cX12_luck 154 = .ok (.iconst 0, 1) := by decide +kernel
theorem dX12_luck_155 : decode cX12_luck 155 = .ok (.istore 8, 2) := by decide +kernel
theorem dX12_luck_157 : decode cX12_luck 157 = .ok (.iload 8, 2) := by decide +kernel
theorem dX12_luck_159 : decode cX12_luck 159 = .ok (.ifCond .ne 83, 3) := by decide +kernel
theorem dX12_luck_162 : decode cX12_luck 162 = .ok (.lload 4, 2) := by decide +kernel
theorem dX12_luck_164 : decode cX12_luck 164 = .ok (.lload 10, 2) := by decide +kernel
theorem dX12_luck_166 : decode cX12_luck 166 = .ok (.lload 6, 2) := by decide +kernel
theorem dX12_luck_168 : decode cX12_luck 168 = .ok (.lload 10, 2) := by decide +kernel
theorem dX12_luck_170 : decode cX12_luck 170 = .ok (.invokestatic 830, 3) := by decide +kernel
theorem dX12_luck_173 : decode cX12_luck 173 = .ok (.ldiv, 1) := by decide +kernel
theorem dX12_luck_174 : decode cX12_luck 174 = .ok (.lmul, 1) := by decide +kernel
theorem dX12_luck_175 : decode cX12_luck 175 = .ok (.lload 6, 2) := by decide +kernel
theorem dX12_luck_177 : decode cX12_luck 177 = .ok (.lload 6, 2) := by decide +kernel
theorem dX12_luck_179 : decode cX12_luck 179 = .ok (.lload 10, 2) := by decide +kernel
theorem dX12_luck_181 : decode cX12_luck 181 = .ok (.invokestatic 830, 3) := by decide +kernel
theorem dX12_luck_184 : decode cX12_luck 184 = .ok (.ldiv, 1) := by decide +kernel
theorem dX12_luck_185 : decode cX12_luck 185 = .ok (.ladd, 1) := by decide +kernel
theorem dX12_luck_186 : decode cX12_luck 186 = .ok (.lstore 12, 2) := by decide +kernel
theorem dX12_luck_188 : decode cX12_luck 188 = .ok (.lload 6, 2) := by decide +kernel
theorem dX12_luck_190 : decode cX12_luck 190 = .ok (.lload 6, 2) := by decide +kernel
theorem dX12_luck_192 : decode cX12_luck 192 = .ok (.lload 10, 2) := by decide +kernel
theorem dX12_luck_194 : decode cX12_luck 194 = .ok (.invokestatic 830, 3) := by decide +kernel
theorem dX12_luck_197 : decode cX12_luck 197 = .ok (.ldiv, 1) := by decide +kernel
theorem dX12_luck_198 : decode cX12_luck 198 = .ok (.lload 10, 2) := by decide +kernel
theorem dX12_luck_200 : decode cX12_luck 200 = .ok (.lmul, 1) := by decide +kernel
theorem dX12_luck_201 : decode cX12_luck 201 = .ok (.lstore 14, 2) := by decide +kernel
theorem dX12_luck_203 : decode cX12_luck 203 = .ok (.lload 12, 2) := by decide +kernel
theorem dX12_luck_205 : decode cX12_luck 205 = .ok (.lload 14, 2) := by decide +kernel
theorem dX12_luck_207 : decode cX12_luck 207 = .ok (.invokestatic 830, 3) := by decide +kernel
theorem dX12_luck_210 : decode cX12_luck 210 = .ok (.lstore 16, 2) := by decide +kernel
theorem dX12_luck_212 : decode cX12_luck 212 = .ok (.lload 12, 2) := by decide +kernel
theorem dX12_luck_214 : decode cX12_luck 214 = .ok (.lload 16, 2) := by decide +kernel
theorem dX12_luck_216 : decode cX12_luck 216 = .ok (.ldiv, 1) := by decide +kernel
theorem dX12_luck_217 : decode cX12_luck 217 = .ok (.lstore 4, 2) := by decide +kernel
theorem dX12_luck_219 : decode cX12_luck 219 = .ok (.lload 14, 2) := by decide +kernel
theorem dX12_luck_221 : decode cX12_luck 221 = .ok (.lload 16, 2) := by decide +kernel
theorem dX12_luck_223 : decode cX12_luck 223 = .ok (.ldiv, 1) := by decide +kernel
theorem dX12_luck_224 : decode cX12_luck 224 = .ok (.lstore 6, 2) := by decide +kernel
theorem dX12_luck_226 : decode cX12_luck 226 = .ok (.lload 6, 2) := by decide +kernel
theorem dX12_luck_228 : decode cX12_luck 228 = .ok (.ldc2_w 828, 3) := by decide +kernel
theorem dX12_luck_231 : decode cX12_luck 231 = .ok (.lcmp, 1) := by decide +kernel
theorem dX12_luck_232 : decode cX12_luck 232 = .ok (.ifCond .le 7, 3) := by decide +kernel
theorem dX12_luck_235 : decode cX12_luck 235 = .ok (.iconst 1, 1) := by decide +kernel
theorem dX12_luck_236 : decode cX12_luck 236 = .ok (.goto 4, 3) := by decide +kernel
theorem dX12_luck_239 : decode cX12_luck 239 = .ok (.iconst 0, 1) := by decide +kernel
theorem dX12_luck_240 : decode cX12_luck 240 = .ok (.istore 8, 2) := by decide +kernel
theorem dX12_luck_242 : decode cX12_luck 242 = .ok (.aload_n 0, 1) := by decide +kernel
theorem dX12_luck_243 : decode cX12_luck 243 = .ok (.getfield 688, 3) := by decide +kernel
theorem dX12_luck_246 : decode cX12_luck 246 = .ok (.ifCond .le 43, 3) := by decide +kernel
theorem dX12_luck_249 : decode cX12_luck 249 = .ok (.aload_n 0, 1) := by decide +kernel
theorem dX12_luck_250 : decode cX12_luck 250 = .ok (.getfield 258, 3) := by decide +kernel
theorem dX12_luck_253 : decode cX12_luck 253 = .ok (.aload_n 0, 1) := by decide +kernel
theorem dX12_luck_254 : decode cX12_luck 254 = .ok (.getfield 688, 3) := by decide +kernel
theorem dX12_luck_257 : decode cX12_luck 257 = .ok (.iconst 1, 1) := by decide +kernel
theorem dX12_luck_258 : decode cX12_luck 258 = .ok (.isub, 1) := by decide +kernel
theorem dX12_luck_259 : decode cX12_luck 259 = .ok (.iaload, 1) := by decide +kernel
theorem dX12_luck_260 : decode cX12_luck 260 = .ok (.iconst 1, 1) := by decide +kernel
theorem dX12_luck_261 : decode cX12_luck 261 = .ok (.iadd, 1) := by decide +kernel
theorem dX12_luck_262 : decode cX12_luck 262 = .ok (.aload_n 0, 1) := by decide +kernel
theorem dX12_luck_263 : decode cX12_luck 263 = .ok (.getfield 261, 3) := by decide +kernel
theorem dX12_luck_266 : decode cX12_luck 266 = .ok (.aload_n 0, 1) := by decide +kernel
theorem dX12_luck_267 : decode cX12_luck 267 = .ok (.getfield 688, 3) := by decide +kernel
theorem dX12_luck_270 : decode cX12_luck 270 = .ok (.iconst 1, 1) := by decide +kernel
theorem dX12_luck_271 : decode cX12_luck 271 = .ok (.isub, 1) := by decide +kernel
theorem dX12_luck_272 : decode cX12_luck 272 = .ok (.iaload, 1) := by decide +kernel
theorem dX12_luck_273 : decode cX12_luck 273 = .ok (.if_icmp .lt 16, 3) := by decide +kernel
theorem dX12_luck_276 : decode cX12_luck 276 = .ok (.aload_n 0, 1) := by decide +kernel
theorem dX12_luck_277 : decode cX12_luck 277 = .ok (.dup, 1) := by decide +kernel
theorem dX12_luck_278 : decode cX12_luck 278 = .ok (.getfield 688, 3) := by decide +kernel
theorem dX12_luck_281 : decode cX12_luck 281 = .ok (.iconst 1, 1) := by decide +kernel
theorem dX12_luck_282 : decode cX12_luck 282 = .ok (.isub, 1) := by decide +kernel
theorem dX12_luck_283 : decode cX12_luck 283 = .ok (.putfield 688, 3) := by decide +kernel
theorem dX12_luck_286 : decode cX12_luck 286 = .ok (.goto (-44), 3) := by decide +kernel
theorem dX12_luck_289 : decode cX12_luck 289 = .ok (.aload_n 0, 1) := by decide +kernel
theorem dX12_luck_290 : decode cX12_luck 290 = .ok (.getfield 688, 3) := by decide +kernel
theorem dX12_luck_293 : decode cX12_luck 293 = .ok (.ifCond .le 7, 3) := by decide +kernel
theorem dX12_luck_296 : decode cX12_luck 296 = .ok (.iconst 1, 1) := by decide +kernel
theorem dX12_luck_297 : decode cX12_luck 297 = .ok (.goto 4, 3) := by decide +kernel
theorem dX12_luck_300 : decode cX12_luck 300 = .ok (.iconst 0, 1) := by decide +kernel
theorem dX12_luck_301 : decode cX12_luck 301 = .ok (.istore 9, 2) := by decide +kernel
theorem dX12_luck_303 : decode cX12_luck 303 = .ok (.iload 9, 2) := by decide +kernel
theorem dX12_luck_305 : decode cX12_luck 305 = .ok (.ifCond .eq (-258), 3) := by decide +kernel
theorem dX12_luck_308 : decode cX12_luck 308 = .ok (.aload_n 0, 1) := by decide +kernel
theorem dX12_luck_309 : decode cX12_luck 309 = .ok (.getfield 258, 3) := by decide +kernel
theorem dX12_luck_312 : decode cX12_luck 312 = .ok (.aload_n 0, 1) := by decide +kernel
theorem dX12_luck_313 : decode cX12_luck 313 = .ok (.getfield 688, 3) := by decide +kernel
theorem dX12_luck_316 : decode cX12_luck 316 = .ok (.iconst 1, 1) := by decide +kernel
theorem dX12_luck_317 : decode cX12_luck 317 = .ok (.isub, 1) := by decide +kernel
theorem dX12_luck_318 : decode cX12_luck 318 = .ok (.dup2, 1) := by decide +kernel
theorem dX12_luck_319 : decode cX12_luck 319 = .ok (.iaload, 1) := by decide +kernel
theorem dX12_luck_320 : decode cX12_luck 320 = .ok (.iconst 1, 1) := by decide +kernel
theorem dX12_luck_321 : decode cX12_luck 321 = .ok (.iadd, 1) := by decide +kernel
theorem dX12_luck_322 : decode cX12_luck 322 = .ok (.iastore, 1) := by decide +kernel
theorem dX12_luck_323 : decode cX12_luck 323 = .ok (.aload_n 0, 1) := by decide +kernel
theorem dX12_luck_324 : decode cX12_luck 324 = .ok (.aload_n 0, 1) := by decide +kernel
theorem dX12_luck_325 : decode cX12_luck 325 = .ok (.getfield 647, 3) := by decide +kernel
theorem dX12_luck_328 : decode cX12_luck 328 = .ok (.ifCond .ne 10, 3) := by decide +kernel
theorem dX12_luck_331 : decode cX12_luck 331 = .ok (.iload_n 3, 1) := by decide +kernel
theorem dX12_luck_332 : decode cX12_luck 332 = .ok (.sipush 400, 3) := by decide +kernel
theorem dX12_luck_335 : decode cX12_luck 335 = .ok (.if_icmp .ne 7, 3) := by decide +kernel
theorem dX12_luck_338 : decode cX12_luck 338 = .ok (.iconst 1, 1) := by decide +kernel
theorem dX12_luck_339 : decode cX12_luck 339 = .ok (.goto 4, 3) := by decide +kernel
theorem dX12_luck_342 : decode cX12_luck 342 = .ok (.iconst 0, 1) := by decide +kernel
theorem dX12_luck_343 : decode cX12_luck 343 = .ok (.putfield 647, 3) := by decide +kernel
theorem dX12_luck_346 : decode cX12_luck 346 = .ok (.goto (-299), 3) := by decide +kernel
theorem dX12_luck_349 : decode cX12_luck 349 = .ok (.aload_n 0, 1) := by decide +kernel
theorem dX12_luck_350 : decode cX12_luck 350 = .ok (.iconst 0, 1) := by decide +kernel
theorem dX12_luck_351 : decode cX12_luck 351 = .ok (.putfield 682, 3) := by decide +kernel
theorem dX12_luck_354 : decode cX12_luck 354 = .ok (.aload_n 0, 1) := by decide +kernel
theorem dX12_luck_355 : decode cX12_luck 355 = .ok (.getfield 647, 3) := by decide +kernel
theorem dX12_luck_358 : decode cX12_luck 358 = .ok (.ifCond .eq 11, 3) := by decide +kernel
theorem dX12_luck_361 : decode cX12_luck 361 = .ok (.aload_n 0, 1) := by decide +kernel
theorem dX12_luck_362 : decode cX12_luck 362 = .ok (.iconst 0, 1) := by decide +kernel
theorem dX12_luck_363 : decode cX12_luck 363 = .ok (.putfield 647, 3) := by decide +kernel
theorem dX12_luck_366 : decode cX12_luck 366 = .ok (.bipush (-4), 2) := by decide +kernel
theorem dX12_luck_368 : decode cX12_luck 368 = .ok (.ireturn, 1) := by decide +kernel
theorem dX12_luck_369 : decode cX12_luck 369 = .ok (.iload 8, 2) := by decide +kernel
theorem dX12_luck_371 : decode cX12_luck 371 = .ok (.ifCond .eq 6, 3) := by decide +kernel
theorem dX12_luck_374 : decode cX12_luck 374 = .ok (.bipush (-5), 2) := by decide +kernel
theorem dX12_luck_376 : decode cX12_luck 376 = .ok (.ireturn, 1) := by decide +kernel
theorem dX12_luck_377 : decode cX12_luck 377 = .ok (.aload_n 0, 1) := by decide +kernel
theorem dX12_luck_378 : decode cX12_luck 378 = .ok (.iconst 1, 1) := by decide +kernel
theorem dX12_luck_379 : decode cX12_luck 379 = .ok (.putfield 834, 3) := by decide +kernel
theorem dX12_luck_382 : decode cX12_luck 382 = .ok (.aload_n 0, 1) := by decide +kernel
theorem dX12_luck_383 : decode cX12_luck 383 = .ok (.lload 4, 2) := by decide +kernel
theorem dX12_luck_385 : decode cX12_luck 385 = .ok (.putfield 837, 3) := by decide +kernel
theorem dX12_luck_388 : decode cX12_luck 388 = .ok (.aload_n 0, 1) := by decide +kernel
theorem dX12_luck_389 : decode cX12_luck 389 = .ok (.lload 6, 2) := by decide +kernel
theorem dX12_luck_391 : decode cX12_luck 391 = .ok (.putfield 840, 3) := by decide +kernel
theorem dX12_luck_394 : decode cX12_luck 394 = .ok (.iload_n 3, 1) := by decide +kernel
theorem dX12_luck_395 : decode cX12_luck 395 = .ok (.ireturn, 1) := by decide +kernel
theorem dX12_share_0 : decode cX12_share 0 = .ok (.aload_n 0, 1) := by decide +kernel
theorem dX12_share_1 : decode cX12_share 1 = .ok (.getfield 834, 3) := by decide +kernel
theorem dX12_share_4 : decode cX12_share 4 = .ok (.ifCond .eq 31, 3) := by decide +kernel
theorem dX12_share_7 : decode cX12_share 7 = .ok (.iload_n 1, 1) := by decide +kernel
theorem dX12_share_8 : decode cX12_share 8 = .ok (.iconst 0, 1) := by decide +kernel
theorem dX12_share_9 : decode cX12_share 9 = .ok (.iconst 1, 1) := by decide +kernel
theorem dX12_share_10 : decode cX12_share 10 = .ok (.invokestatic 381, 3) := by decide +kernel
theorem dX12_share_13 : decode cX12_share 13 = .ok (.ifCond .eq 22, 3) := by decide +kernel
theorem dX12_share_16 : decode cX12_share 16 = .ok (.iload_n 1, 1) := by decide +kernel
theorem dX12_share_17 : decode cX12_share 17 = .ok (.ifCond .ne 10, 3) := by decide +kernel
theorem dX12_share_20 : decode cX12_share 20 = .ok (.aload_n 0, 1) := by decide +kernel
theorem dX12_share_21 : decode cX12_share 21 = .ok (.getfield 837, 3) := by decide +kernel
theorem dX12_share_24 : decode cX12_share 24 = .ok (.goto 7, 3) := by decide +kernel
theorem dX12_share_27 : decode cX12_share 27 = .ok (.aload_n 0, 1) := by decide +kernel
theorem dX12_share_28 : decode cX12_share 28 = .ok (.getfield 840, 3) := by decide +kernel
theorem dX12_share_31 : decode cX12_share 31 = .ok (.l2i, 1) := by decide +kernel
theorem dX12_share_32 : decode cX12_share 32 = .ok (.goto 4, 3) := by decide +kernel
theorem dX12_share_35 : decode cX12_share 35 = .ok (.iconst (-1), 1) := by decide +kernel
theorem dX12_share_36 : decode cX12_share 36 = .ok (.ireturn, 1) := by decide +kernel
theorem dX12_passesBehind_0 : decode cX12_passesBehind 0 = .ok (.aload_n 0, 1) := by decide +kernel
theorem dX12_passesBehind_1 : decode cX12_passesBehind 1 = .ok (.iload_n 1, 1) := by decide +kernel
theorem dX12_passesBehind_2 : decode cX12_passesBehind 2 = .ok (.iconst (-1), 1) := by decide +kernel
theorem dX12_passesBehind_3 : decode cX12_passesBehind 3 = .ok (.invokevirtual 738, 3) := by decide +kernel
theorem dX12_passesBehind_6 : decode cX12_passesBehind 6 = .ok (.iconst 0, 1) := by decide +kernel
theorem dX12_passesBehind_7 : decode cX12_passesBehind 7 = .ok (.istore 5, 2) := by decide +kernel
theorem dX12_passesBehind_9 : decode cX12_passesBehind 9 = .ok (.iload 5, 2) := by decide +kernel
theorem dX12_passesBehind_11 : decode cX12_passesBehind 11 = .ok (.iload_n 2, 1) := by decide +kernel
theorem dX12_passesBehind_12 : decode cX12_passesBehind 12 = .ok (.if_icmp .ge 33, 3) := by decide +kernel
theorem dX12_passesBehind_15 : decode cX12_passesBehind 15 = .ok (.aload_n 0, 1) := by decide +kernel
theorem dX12_passesBehind_16 : decode cX12_passesBehind 16 = .ok (.getfield 647, 3) := by decide +kernel
theorem dX12_passesBehind_19 : decode cX12_passesBehind 19 = .ok (.ifCond .ne 26, 3) := by decide +kernel
theorem dX12_passesBehind_22 : decode cX12_passesBehind 22 = .ok (.iload 5, 2) := by decide +kernel
theorem dX12_passesBehind_24 : decode cX12_passesBehind 24 = .ok (.iload_n 3, 1) := by decide +kernel
theorem dX12_passesBehind_25 : decode cX12_passesBehind 25 = .ok (.if_icmp .eq 14, 3) := by decide +kernel
theorem dX12_passesBehind_28 : decode cX12_passesBehind 28 = .ok (.aload_n 0, 1) := by decide +kernel
theorem dX12_passesBehind_29 : decode cX12_passesBehind 29 = .ok (.aload_n 0, 1) := by decide +kernel
theorem dX12_passesBehind_30 : decode cX12_passesBehind 30 = .ok (.getfield 369, 3) := by decide +kernel
theorem dX12_passesBehind_33 : decode cX12_passesBehind 33 = .ok (.iload 5, 2) := by decide +kernel
theorem dX12_passesBehind_35 : decode cX12_passesBehind 35 = .ok (.iaload, 1) := by decide +kernel
theorem dX12_passesBehind_36 : decode cX12_passesBehind 36 = .ok (.invokevirtual 744, 3) := by decide +kernel
theorem dX12_passesBehind_39 : decode cX12_passesBehind 39 = .ok (.iinc 5 1, 3) := by decide +kernel
theorem dX12_passesBehind_42 : decode cX12_passesBehind 42 = .ok (.goto (-33), 3) := by decide +kernel
theorem dX12_passesBehind_45 : decode cX12_passesBehind 45 = .ok (.aload_n 0, 1) := by decide +kernel
theorem dX12_passesBehind_46 : decode cX12_passesBehind 46 = .ok (.iload 4, 2) := by decide +kernel
theorem dX12_passesBehind_48 : decode cX12_passesBehind 48 = .ok (.invokevirtual 744, 3) := by decide +kernel
theorem dX12_passesBehind_51 : decode cX12_passesBehind 51 = .ok (.aload_n 0, 1) := by decide +kernel
theorem dX12_passesBehind_52 : decode cX12_passesBehind 52 = .ok (.getfield 717, 3) := by decide +kernel
theorem dX12_passesBehind_55 : decode cX12_passesBehind 55 = .ok (.iconst 1, 1) := by decide +kernel
theorem dX12_passesBehind_56 : decode cX12_passesBehind 56 = .ok (.if_icmp .ne 7, 3) := by decide +kernel
theorem dX12_passesBehind_59 : decode cX12_passesBehind 59 = .ok (.iconst 1, 1) := by decide +kernel
theorem dX12_passesBehind_60 : decode cX12_passesBehind 60 = .ok (.goto 4, 3) := by decide +kernel
theorem dX12_passesBehind_63 : decode cX12_passesBehind 63 = .ok (.iconst 0, 1) := by decide +kernel
theorem dX12_passesBehind_64 : decode cX12_passesBehind 64 = .ok (.ireturn, 1) := by decide +kernel
theorem dX12_blame_0 : decode cX12_blame 0 = .ok (.aload_n 0, 1) := by decide +kernel
theorem dX12_blame_1 : decode cX12_blame 1 = .ok (.iload_n 1, 1) := by decide +kernel
theorem dX12_blame_2 : decode cX12_blame 2 = .ok (.iload_n 2, 1) := by decide +kernel
theorem dX12_blame_3 : decode cX12_blame 3 = .ok (.invokevirtual 747, 3) := by decide +kernel
theorem dX12_blame_6 : decode cX12_blame 6 = .ok (.ifCond .ne 5, 3) := by decide +kernel
theorem dX12_blame_9 : decode cX12_blame 9 = .ok (.iconst (-1), 1) := by decide +kernel
theorem dX12_blame_10 : decode cX12_blame 10 = .ok (.ireturn, 1) := by decide +kernel
theorem dX12_blame_11 : decode cX12_blame 11 = .ok (.aload_n 0, 1) := by decide +kernel
theorem dX12_blame_12 : decode cX12_blame 12 = .ok (.getfield 73, 3) := by decide +kernel
theorem dX12_blame_15 : decode cX12_blame 15 = .ok (.bipush 16, 2) := by decide +kernel
theorem dX12_blame_17 : decode cX12_blame 17 = .ok (.iload_n 1, 1) := by decide +kernel
theorem dX12_blame_18 : decode cX12_blame 18 = .ok (.imul, 1) := by decide +kernel
theorem dX12_blame_19 : decode cX12_blame 19 = .ok (.iload_n 2, 1) := by decide +kernel
theorem dX12_blame_20 : decode cX12_blame 20 = .ok (.iadd, 1) := by decide +kernel
theorem dX12_blame_21 : decode cX12_blame 21 = .ok (.baload, 1) := by decide +kernel
theorem dX12_blame_22 : decode cX12_blame 22 = .ok (.ifCond .eq 6, 3) := by decide +kernel
theorem dX12_blame_25 : decode cX12_blame 25 = .ok (.bipush (-2), 2) := by decide +kernel
theorem dX12_blame_27 : decode cX12_blame 27 = .ok (.ireturn, 1) := by decide +kernel
theorem dX12_blame_28 : decode cX12_blame 28 = .ok (.iconst 0, 1) := by decide +kernel
theorem dX12_blame_29 : decode cX12_blame 29 = .ok (.istore_n 3, 1) := by decide +kernel
theorem dX12_blame_30 : decode cX12_blame 30 = .ok (.aload_n 0, 1) := by decide +kernel
theorem dX12_blame_31 : decode cX12_blame 31 = .ok (.getfield 79, 3) := by decide +kernel
theorem dX12_blame_34 : decode cX12_blame 34 = .ok (.bipush 16, 2) := by decide +kernel
theorem dX12_blame_36 : decode cX12_blame 36 = .ok (.iload_n 1, 1) := by decide +kernel
theorem dX12_blame_37 : decode cX12_blame 37 = .ok (.imul, 1) := by decide +kernel
theorem dX12_blame_38 : decode cX12_blame 38 = .ok (.iload_n 3, 1) := by decide +kernel
theorem dX12_blame_39 : decode cX12_blame 39 = .ok (.iadd, 1) := by decide +kernel
theorem dX12_blame_40 : decode cX12_blame 40 = .ok (.iaload, 1) := by decide +kernel
theorem dX12_blame_41 : decode cX12_blame 41 = .ok (.iload_n 2, 1) := by decide +kernel
theorem dX12_blame_42 : decode cX12_blame 42 = .ok (.if_icmp .eq 26, 3) := by decide +kernel
theorem dX12_blame_45 : decode cX12_blame 45 = .ok (.aload_n 0, 1) := by decide +kernel
theorem dX12_blame_46 : decode cX12_blame 46 = .ok (.getfield 369, 3) := by decide +kernel
theorem dX12_blame_49 : decode cX12_blame 49 = .ok (.iload_n 3, 1) := by decide +kernel
theorem dX12_blame_50 : decode cX12_blame 50 = .ok (.aload_n 0, 1) := by decide +kernel
theorem dX12_blame_51 : decode cX12_blame 51 = .ok (.getfield 79, 3) := by decide +kernel
theorem dX12_blame_54 : decode cX12_blame 54 = .ok (.bipush 16, 2) := by decide +kernel
theorem dX12_blame_56 : decode cX12_blame 56 = .ok (.iload_n 1, 1) := by decide +kernel
theorem dX12_blame_57 : decode cX12_blame 57 = .ok (.imul, 1) := by decide +kernel
theorem dX12_blame_58 : decode cX12_blame 58 = .ok (.iload_n 3, 1) := by decide +kernel
theorem dX12_blame_59 : decode cX12_blame 59 = .ok (.iadd, 1) := by decide +kernel
theorem dX12_blame_60 : decode cX12_blame 60 = .ok (.iaload, 1) := by decide +kernel
theorem dX12_blame_61 : decode cX12_blame 61 = .ok (.iastore, 1) := by decide +kernel
theorem dX12_blame_62 : decode cX12_blame 62 = .ok (.iinc 3 1, 3) := by decide +kernel
theorem dX12_blame_65 : decode cX12_blame 65 = .ok (.goto (-35), 3) := by decide +kernel
theorem dX12_blame_68 : decode cX12_blame 68 = .ok (.aload_n 0, 1) := by decide +kernel
theorem dX12_blame_69 : decode cX12_blame 69 = .ok (.sipush 20000, 3) := by decide +kernel
theorem dX12_blame_72 : decode cX12_blame 72 = .ok (.putfield 644, 3) := by decide +kernel
theorem dX12_blame_75 : decode cX12_blame 75 = .ok (.aload_n 0, 1) := by decide +kernel
theorem dX12_blame_76 : decode cX12_blame 76 = .ok (.iconst 0, 1) := by decide +kernel
theorem dX12_blame_77 : decode cX12_blame 77 = .ok (.putfield 647, 3) := by decide +kernel
theorem dX12_blame_80 : decode cX12_blame 80 = .ok (.aload_n 0, 1) := by decide +kernel
theorem dX12_blame_81 : decode cX12_blame 81 = .ok (.iload_n 1, 1) := by decide +kernel
theorem dX12_blame_82 : decode cX12_blame 82 = .ok (.iload_n 3, 1) := by decide +kernel
theorem dX12_blame_83 : decode cX12_blame 83 = .ok (.iconst (-1), 1) := by decide +kernel
theorem dX12_blame_84 : decode cX12_blame 84 = .ok (.iload_n 2, 1) := by decide +kernel
theorem dX12_blame_85 : decode cX12_blame 85 = .ok (.invokevirtual 843, 3) := by decide +kernel
theorem dX12_blame_88 : decode cX12_blame 88 = .ok (.ifCond .eq 14, 3) := by decide +kernel
theorem dX12_blame_91 : decode cX12_blame 91 = .ok (.aload_n 0, 1) := by decide +kernel
theorem dX12_blame_92 : decode cX12_blame 92 = .ok (.getfield 647, 3) := by decide +kernel
theorem dX12_blame_95 : decode cX12_blame 95 = .ok (.ifCond .ne 7, 3) := by decide +kernel
theorem dX12_blame_98 : decode cX12_blame 98 = .ok (.iconst 1, 1) := by decide +kernel
theorem dX12_blame_99 : decode cX12_blame 99 = .ok (.goto 4, 3) := by decide +kernel
theorem dX12_blame_102 : decode cX12_blame 102 = .ok (.iconst 0, 1) := by decide +kernel
theorem dX12_blame_103 : decode cX12_blame 103 = .ok (.istore 4, 2) := by decide +kernel
theorem dX12_blame_105 : decode cX12_blame 105 = .ok (.iload 4, 2) := by decide +kernel
theorem dX12_blame_107 : decode cX12_blame 107 = .ok (.ifCond .ne 35, 3) := by decide +kernel
theorem dX12_blame_110 : decode cX12_blame 110 = .ok (.aload_n 0, 1) := by decide +kernel
theorem dX12_blame_111 : decode cX12_blame 111 = .ok (.getfield 647, 3) := by decide +kernel
theorem dX12_blame_114 : decode cX12_blame 114 = .ok (.ifCond .ne 28, 3) := by decide +kernel
theorem dX12_blame_117 : decode cX12_blame 117 = .ok (.aload_n 0, 1) := by decide +kernel
theorem dX12_blame_118 : decode cX12_blame 118 = .ok (.iload_n 1, 1) := by decide +kernel
theorem dX12_blame_119 : decode cX12_blame 119 = .ok (.iconst 0, 1) := by decide +kernel
theorem dX12_blame_120 : decode cX12_blame 120 = .ok (.iconst (-1), 1) := by decide +kernel
theorem dX12_blame_121 : decode cX12_blame 121 = .ok (.iload_n 2, 1) := by decide +kernel
theorem dX12_blame_122 : decode cX12_blame 122 = .ok (.invokevirtual 843, 3) := by decide +kernel
theorem dX12_blame_125 : decode cX12_blame 125 = .ok (.ifCond .ne 14, 3) := by decide +kernel
theorem dX12_blame_128 : decode cX12_blame 128 = .ok (.aload_n 0, 1) := by decide +kernel
theorem dX12_blame_129 : decode cX12_blame 129 = .ok (.getfield 647, 3) := by decide +kernel
theorem dX12_blame_132 : decode cX12_blame 132 = .ok (.ifCond .ne 7, 3) := by decide +kernel
theorem dX12_blame_135 : decode cX12_blame 135 = .ok (.iconst 1, 1) := by decide +kernel
theorem dX12_blame_136 : decode cX12_blame 136 = .ok (.goto 4, 3) := by decide +kernel
theorem dX12_blame_139 : decode cX12_blame 139 = .ok (.iconst 0, 1) := by decide +kernel
theorem dX12_blame_140 : decode cX12_blame 140 = .ok (.istore 4, 2) := by decide +kernel
theorem dX12_blame_142 : decode cX12_blame 142 = .ok (.iload 4, 2) := by decide +kernel
theorem dX12_blame_144 : decode cX12_blame 144 = .ok (.ifCond .ne 7, 3) := by decide +kernel
theorem dX12_blame_147 : decode cX12_blame 147 = .ok (.iconst 1, 1) := by decide +kernel
theorem dX12_blame_148 : decode cX12_blame 148 = .ok (.goto 4, 3) := by decide +kernel
theorem dX12_blame_151 : decode cX12_blame 151 = .ok (.iconst 0, 1) := by decide +kernel
theorem dX12_blame_152 : decode cX12_blame 152 = .ok (.istore 5, 2) := by decide +kernel
theorem dX12_blame_154 : decode cX12_blame 154 = .ok (.iload 5, 2) := by decide +kernel
theorem dX12_blame_156 : decode cX12_blame 156 = .ok (.ifCond .eq 98, 3) := by decide +kernel
theorem dX12_blame_159 : decode cX12_blame 159 = .ok (.aload_n 0, 1) := by decide +kernel
theorem dX12_blame_160 : decode cX12_blame 160 = .ok (.getfield 647, 3) := by decide +kernel
theorem dX12_blame_163 : decode cX12_blame 163 = .ok (.ifCond .ne 91, 3) := by decide +kernel
theorem dX12_blame_166 : decode cX12_blame 166 = .ok (.iconst 0, 1) := by decide +kernel
theorem dX12_blame_167 : decode cX12_blame 167 = .ok (.istore 5, 2) := by decide +kernel
theorem dX12_blame_169 : decode cX12_blame 169 = .ok (.iconst 0, 1) := by decide +kernel
theorem dX12_blame_170 : decode cX12_blame 170 = .ok (.istore 6, 2) := by decide +kernel
theorem dX12_blame_172 : decode cX12_blame 172 = .ok (.iload 6, 2) := by decide +kernel
theorem dX12_blame_174 : decode cX12_blame 174 = .ok (.iload_n 3, 1) := by decide +kernel
theorem dX12_blame_175 : decode cX12_blame 175 = .ok (.if_icmp .ge 76, 3) := by decide +kernel
theorem dX12_blame_178 : decode cX12_blame 178 = .ok (.aload_n 0, 1) := by decide +kernel
theorem dX12_blame_179 : decode cX12_blame 179 = .ok (.getfield 647, 3) := by decide +kernel
theorem dX12_blame_182 : decode cX12_blame 182 = .ok (.ifCond .ne 69, 3) := by decide +kernel
theorem dX12_blame_185 : decode cX12_blame 185 = .ok (.aload_n 0, 1) := by decide +kernel
theorem dX12_blame_186 : decode cX12_blame 186 = .ok (.iload_n 1, 1) := by decide +kernel
theorem dX12_blame_187 : decode cX12_blame 187 = .ok (.iload_n 3, 1) := by decide +kernel
theorem dX12_blame_188 : decode cX12_blame 188 = .ok (.iload 6, 2) := by decide +kernel
theorem dX12_blame_190 : decode cX12_blame 190 = .ok (.iload_n 2, 1) := by decide +kernel
theorem dX12_blame_191 : decode cX12_blame 191 = .ok (.invokevirtual 843, 3) := by decide +kernel
theorem dX12_blame_194 : decode cX12_blame 194 = .ok (.ifCond .eq 9, 3) := by decide +kernel
theorem dX12_blame_197 : decode cX12_blame 197 = .ok (.iinc 6 1, 3) := by decide +kernel
theorem dX12_blame_200 : decode cX12_blame 200 = .ok (.goto (-28), 3) := by decide +kernel
theorem dX12_blame_203 : decode cX12_blame 203 = .ok (.aload_n 0, 1) := by decide +kernel
theorem dX12_blame_204 : decode cX12_blame 204 = .ok (.getfield 647, 3) := by decide +kernel
theorem dX12_blame_207 : decode cX12_blame 207 = .ok (.ifCond .ne (-35), 3) := by decide +kernel
theorem dX12_blame_210 : decode cX12_blame 210 = .ok (.iinc 3 (-1), 3) := by decide +kernel
theorem dX12_blame_213 : decode cX12_blame 213 = .ok (.iload 6, 2) := by decide +kernel
theorem dX12_blame_215 : decode cX12_blame 215 = .ok (.istore 7, 2) := by decide +kernel
theorem dX12_blame_217 : decode cX12_blame 217 = .ok (.iload 7, 2) := by decide +kernel
theorem dX12_blame_219 : decode cX12_blame 219 = .ok (.iload_n 3, 1) := by decide +kernel
theorem dX12_blame_220 : decode cX12_blame 220 = .ok (.if_icmp .ge 25, 3) := by decide +kernel
theorem dX12_blame_223 : decode cX12_blame 223 = .ok (.aload_n 0, 1) := by decide +kernel
theorem dX12_blame_224 : decode cX12_blame 224 = .ok (.getfield 369, 3) := by decide +kernel
theorem dX12_blame_227 : decode cX12_blame 227 = .ok (.iload 7, 2) := by decide +kernel
theorem dX12_blame_229 : decode cX12_blame 229 = .ok (.aload_n 0, 1) := by decide +kernel
theorem dX12_blame_230 : decode cX12_blame 230 = .ok (.getfield 369, 3) := by decide +kernel
theorem dX12_blame_233 : decode cX12_blame 233 = .ok (.iload 7, 2) := by decide +kernel
theorem dX12_blame_235 : decode cX12_blame 235 = .ok (.iconst 1, 1) := by decide +kernel
theorem dX12_blame_236 : decode cX12_blame 236 = .ok (.iadd, 1) := by decide +kernel
theorem dX12_blame_237 : decode cX12_blame 237 = .ok (.iaload, 1) := by decide +kernel
theorem dX12_blame_238 : decode cX12_blame 238 = .ok (.iastore, 1) := by decide +kernel
theorem dX12_blame_239 : decode cX12_blame 239 = .ok (.iinc 7 1, 3) := by decide +kernel
theorem dX12_blame_242 : decode cX12_blame 242 = .ok (.goto (-25), 3) := by decide +kernel
theorem dX12_blame_245 : decode cX12_blame 245 = .ok (.iconst 1, 1) := by decide +kernel
theorem dX12_blame_246 : decode cX12_blame 246 = .ok (.istore 5, 2) := by decide +kernel
theorem dX12_blame_248 : decode cX12_blame 248 = .ok (.goto (-76), 3) := by decide +kernel
theorem dX12_blame_251 : decode cX12_blame 251 = .ok (.goto (-97), 3) := by decide +kernel
theorem dX12_blame_254 : decode cX12_blame 254 = .ok (.aload_n 0, 1) := by decide +kernel
theorem dX12_blame_255 : decode cX12_blame 255 = .ok (.getfield 647, 3) := by decide +kernel
theorem dX12_blame_258 : decode cX12_blame 258 = .ok (.ifCond .eq 11, 3) := by decide +kernel
theorem dX12_blame_261 : decode cX12_blame 261 = .ok (.aload_n 0, 1) := by decide +kernel
theorem dX12_blame_262 : decode cX12_blame 262 = .ok (.iconst 0, 1) := by decide +kernel
theorem dX12_blame_263 : decode cX12_blame 263 = .ok (.putfield 647, 3) := by decide +kernel
theorem dX12_blame_266 : decode cX12_blame 266 = .ok (.bipush (-4), 2) := by decide +kernel
theorem dX12_blame_268 : decode cX12_blame 268 = .ok (.ireturn, 1) := by decide +kernel
theorem dX12_blame_269 : decode cX12_blame 269 = .ok (.iload 4, 2) := by decide +kernel
theorem dX12_blame_271 : decode cX12_blame 271 = .ok (.ifCond .eq 6, 3) := by decide +kernel
theorem dX12_blame_274 : decode cX12_blame 274 = .ok (.bipush (-2), 2) := by decide +kernel
theorem dX12_blame_276 : decode cX12_blame 276 = .ok (.ireturn, 1) := by decide +kernel
theorem dX12_blame_277 : decode cX12_blame 277 = .ok (.aload_n 0, 1) := by decide +kernel
theorem dX12_blame_278 : decode cX12_blame 278 = .ok (.iload_n 3, 1) := by decide +kernel
theorem dX12_blame_279 : decode cX12_blame 279 = .ok (.putfield 847, 3) := by decide +kernel
theorem dX12_blame_282 : decode cX12_blame 282 = .ok (.iconst 0, 1) := by decide +kernel
theorem dX12_blame_283 : decode cX12_blame 283 = .ok (.istore 6, 2) := by decide +kernel
theorem dX12_blame_285 : decode cX12_blame 285 = .ok (.iload 6, 2) := by decide +kernel
theorem dX12_blame_287 : decode cX12_blame 287 = .ok (.iload_n 3, 1) := by decide +kernel
theorem dX12_blame_288 : decode cX12_blame 288 = .ok (.if_icmp .ge 23, 3) := by decide +kernel
theorem dX12_blame_291 : decode cX12_blame 291 = .ok (.aload_n 0, 1) := by decide +kernel
theorem dX12_blame_292 : decode cX12_blame 292 = .ok (.getfield 366, 3) := by decide +kernel
theorem dX12_blame_295 : decode cX12_blame 295 = .ok (.iload 6, 2) := by decide +kernel
theorem dX12_blame_297 : decode cX12_blame 297 = .ok (.aload_n 0, 1) := by decide +kernel
theorem dX12_blame_298 : decode cX12_blame 298 = .ok (.getfield 369, 3) := by decide +kernel
theorem dX12_blame_301 : decode cX12_blame 301 = .ok (.iload 6, 2) := by decide +kernel
theorem dX12_blame_303 : decode cX12_blame 303 = .ok (.iaload, 1) := by decide +kernel
theorem dX12_blame_304 : decode cX12_blame 304 = .ok (.iastore, 1) := by decide +kernel
theorem dX12_blame_305 : decode cX12_blame 305 = .ok (.iinc 6 1, 3) := by decide +kernel
theorem dX12_blame_308 : decode cX12_blame 308 = .ok (.goto (-23), 3) := by decide +kernel
theorem dX12_blame_311 : decode cX12_blame 311 = .ok (.iload_n 3, 1) := by decide +kernel
theorem dX12_blame_312 : decode cX12_blame 312 = .ok (.ireturn, 1) := by decide +kernel
theorem dX12_blamed_0 : decode cX12_blamed 0 = .ok (.iload_n 1, 1) := by decide +kernel
theorem dX12_blamed_1 : decode cX12_blamed 1 = .ok (.iconst 0, 1) := by decide +kernel
theorem dX12_blamed_2 : decode cX12_blamed 2 = .ok (.aload_n 0, 1) := by decide +kernel
theorem dX12_blamed_3 : decode cX12_blamed 3 = .ok (.getfield 847, 3) := by decide +kernel
theorem dX12_blamed_6 : decode cX12_blamed 6 = .ok (.iconst 1, 1) := by decide +kernel
theorem dX12_blamed_7 : decode cX12_blamed 7 = .ok (.isub, 1) := by decide +kernel
theorem dX12_blamed_8 : decode cX12_blamed 8 = .ok (.invokestatic 381, 3) := by decide +kernel
theorem dX12_blamed_11 : decode cX12_blamed 11 = .ok (.ifCond .eq 12, 3) := by decide +kernel
theorem dX12_blamed_14 : decode cX12_blamed 14 = .ok (.aload_n 0, 1) := by decide +kernel
theorem dX12_blamed_15 : decode cX12_blamed 15 = .ok (.getfield 366, 3) := by decide +kernel
theorem dX12_blamed_18 : decode cX12_blamed 18 = .ok (.iload_n 1, 1) := by decide +kernel
theorem dX12_blamed_19 : decode cX12_blamed 19 = .ok (.iaload, 1) := by decide +kernel
theorem dX12_blamed_20 : decode cX12_blamed 20 = .ok (.goto 4, 3) := by decide +kernel
theorem dX12_blamed_23 : decode cX12_blamed 23 = .ok (.iconst (-1), 1) := by decide +kernel
theorem dX12_blamed_24 : decode cX12_blamed 24 = .ok (.ireturn, 1) := by decide +kernel
theorem dX12_build_0 : decode cX12_build 0 = .ok (.aload_n 0, 1) := by decide +kernel
theorem dX12_build_1 : decode cX12_build 1 = .ok (.iload_n 1, 1) := by decide +kernel
theorem dX12_build_2 : decode cX12_build 2 = .ok (.invokevirtual 735, 3) := by decide +kernel
theorem dX12_build_5 : decode cX12_build 5 = .ok (.ifCond .eq 11, 3) := by decide +kernel
theorem dX12_build_8 : decode cX12_build 8 = .ok (.aload_n 0, 1) := by decide +kernel
theorem dX12_build_9 : decode cX12_build 9 = .ok (.iload_n 2, 1) := by decide +kernel
theorem dX12_build_10 : decode cX12_build 10 = .ok (.invokevirtual 735, 3) := by decide +kernel
theorem dX12_build_13 : decode cX12_build 13 = .ok (.ifCond .ne 5, 3) := by decide +kernel
theorem dX12_build_16 : decode cX12_build 16 = .ok (.iconst (-1), 1) := by decide +kernel
theorem dX12_build_17 : decode cX12_build 17 = .ok (.ireturn, 1) := by decide +kernel
theorem dX12_build_18 : decode cX12_build 18 = .ok (.aload_n 0, 1) := by decide +kernel
theorem dX12_build_19 : decode cX12_build 19 = .ok (.getfield 850, 3) := by decide +kernel
theorem dX12_build_22 : decode cX12_build 22 = .ok (.bipush 8, 2) := by decide +kernel
theorem dX12_build_24 : decode cX12_build 24 = .ok (.if_icmp .ne 6, 3) := by decide +kernel
theorem dX12_build_27 : decode cX12_build 27 = .ok (.bipush (-3), 2) := by decide +kernel
theorem dX12_build_29 : decode cX12_build 29 = .ok (.ireturn, 1) := by decide +kernel
theorem dX12_build_30 : decode cX12_build 30 = .ok (.aload_n 0, 1) := by decide +kernel
theorem dX12_build_31 : decode cX12_build 31 = .ok (.getfield 372, 3) := by decide +kernel
theorem dX12_build_34 : decode cX12_build 34 = .ok (.aload_n 0, 1) := by decide +kernel
theorem dX12_build_35 : decode cX12_build 35 = .ok (.getfield 850, 3) := by decide +kernel
theorem dX12_build_38 : decode cX12_build 38 = .ok (.iload_n 1, 1) := by decide +kernel
theorem dX12_build_39 : decode cX12_build 39 = .ok (.iastore, 1) := by decide +kernel
theorem dX12_build_40 : decode cX12_build 40 = .ok (.aload_n 0, 1) := by decide +kernel
theorem dX12_build_41 : decode cX12_build 41 = .ok (.getfield 375, 3) := by decide +kernel
theorem dX12_build_44 : decode cX12_build 44 = .ok (.aload_n 0, 1) := by decide +kernel
theorem dX12_build_45 : decode cX12_build 45 = .ok (.getfield 850, 3) := by decide +kernel
theorem dX12_build_48 : decode cX12_build 48 = .ok (.iload_n 2, 1) := by decide +kernel
theorem dX12_build_49 : decode cX12_build 49 = .ok (.iastore, 1) := by decide +kernel
theorem dX12_build_50 : decode cX12_build 50 = .ok (.aload_n 0, 1) := by decide +kernel
theorem dX12_build_51 : decode cX12_build 51 = .ok (.dup, 1) := by decide +kernel
theorem dX12_build_52 : decode cX12_build 52 = .ok (.getfield 850, 3) := by decide +kernel
theorem dX12_build_55 : decode cX12_build 55 = .ok (.iconst 1, 1) := by decide +kernel
theorem dX12_build_56 : decode cX12_build 56 = .ok (.iadd, 1) := by decide +kernel
theorem dX12_build_57 : decode cX12_build 57 = .ok (.putfield 850, 3) := by decide +kernel
theorem dX12_build_60 : decode cX12_build 60 = .ok (.aload_n 0, 1) := by decide +kernel
theorem dX12_build_61 : decode cX12_build 61 = .ok (.getfield 850, 3) := by decide +kernel
theorem dX12_build_64 : decode cX12_build 64 = .ok (.iconst 1, 1) := by decide +kernel
theorem dX12_build_65 : decode cX12_build 65 = .ok (.isub, 1) := by decide +kernel
theorem dX12_build_66 : decode cX12_build 66 = .ok (.ireturn, 1) := by decide +kernel
theorem dX12_newUnitFor_0 : decode cX12_newUnitFor 0 = .ok (.aload_n 0, 1) := by decide +kernel
theorem dX12_newUnitFor_1 : decode cX12_newUnitFor 1 = .ok (.aload_n 0, 1) := by decide +kernel
theorem dX12_newUnitFor_2 : decode cX12_newUnitFor 2 = .ok (.getfield 375, 3) := by decide +kernel
theorem dX12_newUnitFor_5 : decode cX12_newUnitFor 5 = .ok (.iload_n 1, 1) := by decide +kernel
theorem dX12_newUnitFor_6 : decode cX12_newUnitFor 6 = .ok (.iaload, 1) := by decide +kernel
theorem dX12_newUnitFor_7 : decode cX12_newUnitFor 7 = .ok (.aload_n 0, 1) := by decide +kernel
theorem dX12_newUnitFor_8 : decode cX12_newUnitFor 8 = .ok (.getfield 17, 3) := by decide +kernel
theorem dX12_newUnitFor_11 : decode cX12_newUnitFor 11 = .ok (.bipush 8, 2) := by decide +kernel
theorem dX12_newUnitFor_13 : decode cX12_newUnitFor 13 = .ok (.aload_n 0, 1) := by decide +kernel
theorem dX12_newUnitFor_14 : decode cX12_newUnitFor 14 = .ok (.getfield 372, 3) := by decide +kernel
theorem dX12_newUnitFor_17 : decode cX12_newUnitFor 17 = .ok (.iload_n 1, 1) := by decide +kernel
theorem dX12_newUnitFor_18 : decode cX12_newUnitFor 18 = .ok (.iaload, 1) := by decide +kernel
theorem dX12_newUnitFor_19 : decode cX12_newUnitFor 19 = .ok (.imul, 1) := by decide +kernel
theorem dX12_newUnitFor_20 : decode cX12_newUnitFor 20 = .ok (.iload_n 2, 1) := by decide +kernel
theorem dX12_newUnitFor_21 : decode cX12_newUnitFor 21 = .ok (.iadd, 1) := by decide +kernel
theorem dX12_newUnitFor_22 : decode cX12_newUnitFor 22 = .ok (.laload, 1) := by decide +kernel
theorem dX12_newUnitFor_23 : decode cX12_newUnitFor 23 = .ok (.invokevirtual 571, 3) := by decide +kernel
theorem dX12_newUnitFor_26 : decode cX12_newUnitFor 26 = .ok (.ireturn, 1) := by decide +kernel
theorem dX12_foretold_0 : decode cX12_foretold 0 = .ok (.iload_n 1, 1) := by decide +kernel
theorem dX12_foretold_1 : decode cX12_foretold 1 = .ok (.iconst 0, 1) := by decide +kernel
theorem dX12_foretold_2 : decode cX12_foretold 2 = .ok (.aload_n 0, 1) := by decide +kernel
theorem dX12_foretold_3 : decode cX12_foretold 3 = .ok (.getfield 850, 3) := by decide +kernel
theorem dX12_foretold_6 : decode cX12_foretold 6 = .ok (.iconst 1, 1) := by decide +kernel
theorem dX12_foretold_7 : decode cX12_foretold 7 = .ok (.isub, 1) := by decide +kernel
theorem dX12_foretold_8 : decode cX12_foretold 8 = .ok (.invokestatic 381, 3) := by decide +kernel
theorem dX12_foretold_11 : decode cX12_foretold 11 = .ok (.ifCond .eq 24, 3) := by decide +kernel
theorem dX12_foretold_14 : decode cX12_foretold 14 = .ok (.iload_n 2, 1) := by decide +kernel
theorem dX12_foretold_15 : decode cX12_foretold 15 = .ok (.iconst 0, 1) := by decide +kernel
theorem dX12_foretold_16 : decode cX12_foretold 16 = .ok (.aload_n 0, 1) := by decide +kernel
theorem dX12_foretold_17 : decode cX12_foretold 17 = .ok (.getfield 94, 3) := by decide +kernel
theorem dX12_foretold_20 : decode cX12_foretold 20 = .ok (.aload_n 0, 1) := by decide +kernel
theorem dX12_foretold_21 : decode cX12_foretold 21 = .ok (.getfield 372, 3) := by decide +kernel
theorem dX12_foretold_24 : decode cX12_foretold 24 = .ok (.iload_n 1, 1) := by decide +kernel
theorem dX12_foretold_25 : decode cX12_foretold 25 = .ok (.iaload, 1) := by decide +kernel
theorem dX12_foretold_26 : decode cX12_foretold 26 = .ok (.iaload, 1) := by decide +kernel
theorem dX12_foretold_27 : decode cX12_foretold 27 = .ok (.iconst 1, 1) := by decide +kernel
theorem dX12_foretold_28 : decode cX12_foretold 28 = .ok (.isub, 1) := by decide +kernel
theorem dX12_foretold_29 : decode cX12_foretold 29 = .ok (.invokestatic 381, 3) := by decide +kernel
theorem dX12_foretold_32 : decode cX12_foretold 32 = .ok (.ifCond .ne 5, 3) := by decide +kernel
theorem dX12_foretold_35 : decode cX12_foretold 35 = .ok (.iconst (-1), 1) := by decide +kernel
theorem dX12_foretold_36 : decode cX12_foretold 36 = .ok (.ireturn, 1) := by decide +kernel
theorem dX12_foretold_37 : decode cX12_foretold 37 = .ok (.aload_n 0, 1) := by decide +kernel
theorem dX12_foretold_38 : decode cX12_foretold 38 = .ok (.getfield 372, 3) := by decide +kernel
theorem dX12_foretold_41 : decode cX12_foretold 41 = .ok (.iload_n 1, 1) := by decide +kernel
theorem dX12_foretold_42 : decode cX12_foretold 42 = .ok (.iaload, 1) := by decide +kernel
theorem dX12_foretold_43 : decode cX12_foretold 43 = .ok (.istore_n 3, 1) := by decide +kernel
theorem dX12_foretold_44 : decode cX12_foretold 44 = .ok (.aload_n 0, 1) := by decide +kernel
theorem dX12_foretold_45 : decode cX12_foretold 45 = .ok (.getfield 97, 3) := by decide +kernel
theorem dX12_foretold_48 : decode cX12_foretold 48 = .ok (.sipush 1000, 3) := by decide +kernel
theorem dX12_foretold_51 : decode cX12_foretold 51 = .ok (.iload_n 3, 1) := by decide +kernel
theorem dX12_foretold_52 : decode cX12_foretold 52 = .ok (.imul, 1) := by decide +kernel
theorem dX12_foretold_53 : decode cX12_foretold 53 = .ok (.iload_n 2, 1) := by decide +kernel
theorem dX12_foretold_54 : decode cX12_foretold 54 = .ok (.iadd, 1) := by decide +kernel
theorem dX12_foretold_55 : decode cX12_foretold 55 = .ok (.baload, 1) := by decide +kernel
theorem dX12_foretold_56 : decode cX12_foretold 56 = .ok (.istore 4, 2) := by decide +kernel
theorem dX12_foretold_58 : decode cX12_foretold 58 = .ok (.aload_n 0, 1) := by decide +kernel
theorem dX12_foretold_59 : decode cX12_foretold 59 = .ok (.iload_n 1, 1) := by decide +kernel
theorem dX12_foretold_60 : decode cX12_foretold 60 = .ok (.aload_n 0, 1) := by decide +kernel
theorem dX12_foretold_61 : decode cX12_foretold 61 = .ok (.getfield 103, 3) := by decide +kernel
theorem dX12_foretold_64 : decode cX12_foretold 64 = .ok (.sipush 1000, 3) := by decide +kernel
theorem dX12_foretold_67 : decode cX12_foretold 67 = .ok (.iload_n 3, 1) := by decide +kernel
theorem dX12_foretold_68 : decode cX12_foretold 68 = .ok (.imul, 1) := by decide +kernel
theorem dX12_foretold_69 : decode cX12_foretold 69 = .ok (.iload_n 2, 1) := by decide +kernel
theorem dX12_foretold_70 : decode cX12_foretold 70 = .ok (.iadd, 1) := by decide +kernel
theorem dX12_foretold_71 : decode cX12_foretold 71 = .ok (.baload, 1) := by decide +kernel
theorem dX12_foretold_72 : decode cX12_foretold 72 = .ok (.invokevirtual 853, 3) := by decide +kernel
theorem dX12_foretold_75 : decode cX12_foretold 75 = .ok (.ifCond .ge 16, 3) := by decide +kernel
theorem dX12_foretold_78 : decode cX12_foretold 78 = .ok (.iload 4, 2) := by decide +kernel
theorem dX12_foretold_80 : decode cX12_foretold 80 = .ok (.iconst 3, 1) := by decide +kernel
theorem dX12_foretold_81 : decode cX12_foretold 81 = .ok (.if_icmp .lt 10, 3) := by decide +kernel
theorem dX12_foretold_84 : decode cX12_foretold 84 = .ok (.iload 4, 2) := by decide +kernel
theorem dX12_foretold_86 : decode cX12_foretold 86 = .ok (.bipush 7, 2) := by decide +kernel
theorem dX12_foretold_88 : decode cX12_foretold 88 = .ok (.if_icmp .le 6, 3) := by decide +kernel
theorem dX12_foretold_91 : decode cX12_foretold 91 = .ok (.bipush (-2), 2) := by decide +kernel
theorem dX12_foretold_93 : decode cX12_foretold 93 = .ok (.ireturn, 1) := by decide +kernel
theorem dX12_foretold_94 : decode cX12_foretold 94 = .ok (.aload_n 0, 1) := by decide +kernel
theorem dX12_foretold_95 : decode cX12_foretold 95 = .ok (.getfield 100, 3) := by decide +kernel
theorem dX12_foretold_98 : decode cX12_foretold 98 = .ok (.sipush 1000, 3) := by decide +kernel
theorem dX12_foretold_101 : decode cX12_foretold 101 = .ok (.iload_n 3, 1) := by decide +kernel
theorem dX12_foretold_102 : decode cX12_foretold 102 = .ok (.imul, 1) := by decide +kernel
theorem dX12_foretold_103 : decode cX12_foretold 103 = .ok (.iload_n 2, 1) := by decide +kernel
theorem dX12_foretold_104 : decode cX12_foretold 104 = .ok (.iadd, 1) := by decide +kernel
theorem dX12_foretold_105 : decode cX12_foretold 105 = .ok (.iaload, 1) := by decide +kernel
theorem dX12_foretold_106 : decode cX12_foretold 106 = .ok (.istore 5, 2) := by decide +kernel
theorem dX12_foretold_108 : decode cX12_foretold 108 = .ok (.aload_n 0, 1) := by decide +kernel
theorem dX12_foretold_109 : decode cX12_foretold 109 = .ok (.iload_n 1, 1) := by decide +kernel
theorem dX12_foretold_110 : decode cX12_foretold 110 = .ok (.aload_n 0, 1) := by decide +kernel
theorem dX12_foretold_111 : decode cX12_foretold 111 = .ok (.getfield 42, 3) := by decide +kernel
theorem dX12_foretold_114 : decode cX12_foretold 114 = .ok (.bipush 96, 2) := by decide +kernel
theorem dX12_foretold_116 : decode cX12_foretold 116 = .ok (.iload_n 3, 1) := by decide +kernel
theorem dX12_foretold_117 : decode cX12_foretold 117 = .ok (.imul, 1) := by decide +kernel
theorem dX12_foretold_118 : decode cX12_foretold 118 = .ok (.iload 5, 2) := by decide +kernel
theorem dX12_foretold_120 : decode cX12_foretold 120 = .ok (.iadd, 1) := by decide +kernel
theorem dX12_foretold_121 : decode cX12_foretold 121 = .ok (.iaload, 1) := by decide +kernel
theorem dX12_foretold_122 : decode cX12_foretold 122 = .ok (.invokevirtual 853, 3) := by decide +kernel
theorem dX12_foretold_125 : decode cX12_foretold 125 = .ok (.istore 6, 2) := by decide +kernel
theorem dX12_foretold_127 : decode cX12_foretold 127 = .ok (.iload 6, 2) := by decide +kernel
theorem dX12_foretold_129 : decode cX12_foretold 129 = .ok (.ifCond .ge 8, 3) := by decide +kernel
theorem dX12_foretold_132 : decode cX12_foretold 132 = .ok (.bipush (-2), 2) := by decide +kernel
theorem dX12_foretold_134 : decode cX12_foretold 134 = .ok (.goto 23, 3) := by decide +kernel
theorem dX12_foretold_137 : decode cX12_foretold 137 = .ok (.iconst 0, 1) := by decide +kernel
theorem dX12_foretold_138 : decode cX12_foretold 138 = .ok (.aload_n 0, 1) := by decide +kernel
theorem dX12_foretold_139 : decode cX12_foretold 139 = .ok (.iload_n 3, 1) := by decide +kernel
theorem dX12_foretold_140 : decode cX12_foretold 140 = .ok (.iload 5, 2) := by decide +kernel
theorem dX12_foretold_142 : decode cX12_foretold 142 = .ok (.aload_n 0, 1) := by decide +kernel
theorem dX12_foretold_143 : decode cX12_foretold 143 = .ok (.getfield 375, 3) := by decide +kernel
theorem dX12_foretold_146 : decode cX12_foretold 146 = .ok (.iload_n 1, 1) := by decide +kernel
theorem dX12_foretold_147 : decode cX12_foretold 147 = .ok (.iaload, 1) := by decide +kernel
theorem dX12_foretold_148 : decode cX12_foretold 148 = .ok (.iload 6, 2) := by decide +kernel
theorem dX12_foretold_150 : decode cX12_foretold 150 = .ok (.invokevirtual 606, 3) := by decide +kernel
theorem dX12_foretold_153 : decode cX12_foretold 153 = .ok (.ineg, 1) := by decide +kernel
theorem dX12_foretold_154 : decode cX12_foretold 154 = .ok (.invokestatic 856, 3) := by decide +kernel
theorem dX12_foretold_157 : decode cX12_foretold 157 = .ok (.ireturn, 1) := by decide +kernel
theorem dX12_touch_0 : decode cX12_touch 0 = .ok (.iload_n 1, 1) := by decide +kernel
theorem dX12_touch_1 : decode cX12_touch 1 = .ok (.iconst 0, 1) := by decide +kernel
theorem dX12_touch_2 : decode cX12_touch 2 = .ok (.aload_n 0, 1) := by decide +kernel
theorem dX12_touch_3 : decode cX12_touch 3 = .ok (.getfield 850, 3) := by decide +kernel
theorem dX12_touch_6 : decode cX12_touch 6 = .ok (.iconst 1, 1) := by decide +kernel
theorem dX12_touch_7 : decode cX12_touch 7 = .ok (.isub, 1) := by decide +kernel
theorem dX12_touch_8 : decode cX12_touch 8 = .ok (.invokestatic 381, 3) := by decide +kernel
theorem dX12_touch_11 : decode cX12_touch 11 = .ok (.ifCond .eq 24, 3) := by decide +kernel
theorem dX12_touch_14 : decode cX12_touch 14 = .ok (.iload_n 2, 1) := by decide +kernel
theorem dX12_touch_15 : decode cX12_touch 15 = .ok (.iconst 0, 1) := by decide +kernel
theorem dX12_touch_16 : decode cX12_touch 16 = .ok (.aload_n 0, 1) := by decide +kernel
theorem dX12_touch_17 : decode cX12_touch 17 = .ok (.getfield 58, 3) := by decide +kernel
theorem dX12_touch_20 : decode cX12_touch 20 = .ok (.aload_n 0, 1) := by decide +kernel
theorem dX12_touch_21 : decode cX12_touch 21 = .ok (.getfield 372, 3) := by decide +kernel
theorem dX12_touch_24 : decode cX12_touch 24 = .ok (.iload_n 1, 1) := by decide +kernel
theorem dX12_touch_25 : decode cX12_touch 25 = .ok (.iaload, 1) := by decide +kernel
theorem dX12_touch_26 : decode cX12_touch 26 = .ok (.iaload, 1) := by decide +kernel
theorem dX12_touch_27 : decode cX12_touch 27 = .ok (.iconst 1, 1) := by decide +kernel
theorem dX12_touch_28 : decode cX12_touch 28 = .ok (.isub, 1) := by decide +kernel
theorem dX12_touch_29 : decode cX12_touch 29 = .ok (.invokestatic 381, 3) := by decide +kernel
theorem dX12_touch_32 : decode cX12_touch 32 = .ok (.ifCond .ne 5, 3) := by decide +kernel
theorem dX12_touch_35 : decode cX12_touch 35 = .ok (.iconst (-1), 1) := by decide +kernel
theorem dX12_touch_36 : decode cX12_touch 36 = .ok (.ireturn, 1) := by decide +kernel
theorem dX12_touch_37 : decode cX12_touch 37 = .ok (.aload_n 0, 1) := by decide +kernel
theorem dX12_touch_38 : decode cX12_touch 38 = .ok (.iload_n 1, 1) := by decide +kernel
theorem dX12_touch_39 : decode cX12_touch 39 = .ok (.aload_n 0, 1) := by decide +kernel
theorem dX12_touch_40 : decode cX12_touch 40 = .ok (.getfield 64, 3) := by decide +kernel
theorem dX12_touch_43 : decode cX12_touch 43 = .ok (.bipush 16, 2) := by decide +kernel
theorem dX12_touch_45 : decode cX12_touch 45 = .ok (.aload_n 0, 1) := by decide +kernel
theorem dX12_touch_46 : decode cX12_touch 46 = .ok (.getfield 372, 3) := by decide +kernel
theorem dX12_touch_49 : decode cX12_touch 49 = .ok (.iload_n 1, 1) := by decide +kernel
theorem dX12_touch_50 : decode cX12_touch 50 = .ok (.iaload, 1) := by decide +kernel
theorem dX12_touch_51 : decode cX12_touch 51 = .ok (.imul, 1) := by decide +kernel
theorem dX12_touch_52 : decode cX12_touch 52 = .ok (.iload_n 2, 1) := by decide +kernel
theorem dX12_touch_53 : decode cX12_touch 53 = .ok (.iadd, 1) := by decide +kernel
theorem dX12_touch_54 : decode cX12_touch 54 = .ok (.iaload, 1) := by decide +kernel
theorem dX12_touch_55 : decode cX12_touch 55 = .ok (.invokevirtual 853, 3) := by decide +kernel
theorem dX12_touch_58 : decode cX12_touch 58 = .ok (.ifCond .lt 6, 3) := by decide +kernel
theorem dX12_touch_61 : decode cX12_touch 61 = .ok (.bipush (-2), 2) := by decide +kernel
theorem dX12_touch_63 : decode cX12_touch 63 = .ok (.ireturn, 1) := by decide +kernel
theorem dX12_touch_64 : decode cX12_touch 64 = .ok (.aload_n 0, 1) := by decide +kernel
theorem dX12_touch_65 : decode cX12_touch 65 = .ok (.aload_n 0, 1) := by decide +kernel
theorem dX12_touch_66 : decode cX12_touch 66 = .ok (.getfield 372, 3) := by decide +kernel
theorem dX12_touch_69 : decode cX12_touch 69 = .ok (.iload_n 1, 1) := by decide +kernel
theorem dX12_touch_70 : decode cX12_touch 70 = .ok (.iaload, 1) := by decide +kernel
theorem dX12_touch_71 : decode cX12_touch 71 = .ok (.aload_n 0, 1) := by decide +kernel
theorem dX12_touch_72 : decode cX12_touch 72 = .ok (.getfield 375, 3) := by decide +kernel
theorem dX12_touch_75 : decode cX12_touch 75 = .ok (.iload_n 1, 1) := by decide +kernel
theorem dX12_touch_76 : decode cX12_touch 76 = .ok (.iaload, 1) := by decide +kernel
theorem dX12_touch_77 : decode cX12_touch 77 = .ok (.invokevirtual 738, 3) := by decide +kernel
theorem dX12_touch_80 : decode cX12_touch 80 = .ok (.aload_n 0, 1) := by decide +kernel
theorem dX12_touch_81 : decode cX12_touch 81 = .ok (.iload_n 2, 1) := by decide +kernel
theorem dX12_touch_82 : decode cX12_touch 82 = .ok (.invokevirtual 752, 3) := by decide +kernel
theorem dX12_touch_85 : decode cX12_touch 85 = .ok (.ireturn, 1) := by decide +kernel
theorem dJ11_isValidCodePoint_9a6ad_0 : decode cJ11_isValidCodePoint_9a6ad 0 = .ok (.iload_n 0, 1) := by decide +kernel
theorem dJ11_isValidCodePoint_9a6ad_1 : decode cJ11_isValidCodePoint_9a6ad 1 = .ok (.bipush 16, 2) := by decide +kernel
theorem dJ11_isValidCodePoint_9a6ad_3 : decode cJ11_isValidCodePoint_9a6ad 3 = .ok (.iushr, 1) := by decide +kernel
theorem dJ11_isValidCodePoint_9a6ad_4 : decode cJ11_isValidCodePoint_9a6ad 4 = .ok (.istore_n 1, 1) := by decide +kernel
theorem dJ11_isValidCodePoint_9a6ad_5 : decode cJ11_isValidCodePoint_9a6ad 5 = .ok (.iload_n 1, 1) := by decide +kernel
theorem dJ11_isValidCodePoint_9a6ad_6 : decode cJ11_isValidCodePoint_9a6ad 6 = .ok (.bipush 17, 2) := by decide +kernel
theorem dJ11_isValidCodePoint_9a6ad_8 : decode cJ11_isValidCodePoint_9a6ad 8 = .ok (.if_icmp .ge 7, 3) := by decide +kernel
theorem dJ11_isValidCodePoint_9a6ad_11 : decode cJ11_isValidCodePoint_9a6ad 11 = .ok (.iconst 1, 1) := by decide +kernel
theorem dJ11_isValidCodePoint_9a6ad_12 : decode cJ11_isValidCodePoint_9a6ad 12 = .ok (.goto 4, 3) := by decide +kernel
theorem dJ11_isValidCodePoint_9a6ad_15 : decode cJ11_isValidCodePoint_9a6ad 15 = .ok (.iconst 0, 1) := by decide +kernel
theorem dJ11_isValidCodePoint_9a6ad_16 : decode cJ11_isValidCodePoint_9a6ad 16 = .ok (.ireturn, 1) := by decide +kernel
theorem dJ11_highSurrogate_5068e_0 : decode cJ11_highSurrogate_5068e 0 = .ok (.iload_n 0, 1) := by decide +kernel
theorem dJ11_highSurrogate_5068e_1 : decode cJ11_highSurrogate_5068e 1 = .ok (.bipush 10, 2) := by decide +kernel
theorem dJ11_highSurrogate_5068e_3 : decode cJ11_highSurrogate_5068e 3 = .ok (.iushr, 1) := by decide +kernel
theorem dJ11_highSurrogate_5068e_4 : decode cJ11_highSurrogate_5068e 4 = .ok (.ldc 110, 2) := by decide +kernel
theorem dJ11_highSurrogate_5068e_6 : decode cJ11_highSurrogate_5068e 6 = .ok (.iadd, 1) := by decide +kernel
theorem dJ11_highSurrogate_5068e_7 : decode cJ11_highSurrogate_5068e 7 = .ok (.i2c, 1) := by decide +kernel
theorem dJ11_highSurrogate_5068e_8 : decode cJ11_highSurrogate_5068e 8 = .ok (.ireturn, 1) := by decide +kernel
theorem dJ11_lowSurrogate_5068e_0 : decode cJ11_lowSurrogate_5068e 0 = .ok (.iload_n 0, 1) := by decide +kernel
theorem dJ11_lowSurrogate_5068e_1 : decode cJ11_lowSurrogate_5068e 1 = .ok (.sipush 1023, 3) := by decide +kernel
theorem dJ11_lowSurrogate_5068e_4 : decode cJ11_lowSurrogate_5068e 4 = .ok (.iand, 1) := by decide +kernel
theorem dJ11_lowSurrogate_5068e_5 : decode cJ11_lowSurrogate_5068e 5 = .ok (.ldc 76, 2) := by decide +kernel
theorem dJ11_lowSurrogate_5068e_7 : decode cJ11_lowSurrogate_5068e 7 = .ok (.iadd, 1) := by decide +kernel
theorem dJ11_lowSurrogate_5068e_8 : decode cJ11_lowSurrogate_5068e 8 = .ok (.i2c, 1) := by decide +kernel
theorem dJ11_lowSurrogate_5068e_9 : decode cJ11_lowSurrogate_5068e 9 = .ok (.ireturn, 1) := by decide +kernel
theorem dJ6_lowestOneBit_0f7a4_0 : decode cJ6_lowestOneBit_0f7a4 0 = .ok (.iload_n 0, 1) := by decide +kernel
theorem dJ6_lowestOneBit_0f7a4_1 : decode cJ6_lowestOneBit_0f7a4 1 = .ok (.iload_n 0, 1) := by decide +kernel
theorem dJ6_lowestOneBit_0f7a4_2 : decode cJ6_lowestOneBit_0f7a4 2 = .ok (.ineg, 1) := by decide +kernel
theorem dJ6_lowestOneBit_0f7a4_3 : decode cJ6_lowestOneBit_0f7a4 3 = .ok (.iand, 1) := by decide +kernel
theorem dJ6_lowestOneBit_0f7a4_4 : decode cJ6_lowestOneBit_0f7a4 4 = .ok (.ireturn, 1) := by decide +kernel
theorem dJ6_numberOfLeadingZeros_0f7a4_0 : decode cJ6_numberOfLeadingZeros_0f7a4 0 = .ok (.iload_n 0, 1) := by decide +kernel
theorem dJ6_numberOfLeadingZeros_0f7a4_1 : decode cJ6_numberOfLeadingZeros_0f7a4 1 = .ok (.ifCond .gt 14, 3) := by decide +kernel
theorem dJ6_numberOfLeadingZeros_0f7a4_4 : decode cJ6_numberOfLeadingZeros_0f7a4 4 = .ok (.iload_n 0, 1) := by decide +kernel
theorem dJ6_numberOfLeadingZeros_0f7a4_5 : decode cJ6_numberOfLeadingZeros_0f7a4 5 = .ok (.ifCond .ne 8, 3) := by decide +kernel
theorem dJ6_numberOfLeadingZeros_0f7a4_8 : decode cJ6_numberOfLeadingZeros_0f7a4 8 = .ok (.bipush 32, 2) := by decide +kernel
theorem dJ6_numberOfLeadingZeros_0f7a4_10 : decode cJ6_numberOfLeadingZeros_0f7a4 10 = .ok (.goto 4, 3) := by decide +kernel
theorem dJ6_numberOfLeadingZeros_0f7a4_13 : decode cJ6_numberOfLeadingZeros_0f7a4 13 = .ok (.iconst 0, 1) := by decide +kernel
theorem dJ6_numberOfLeadingZeros_0f7a4_14 : decode cJ6_numberOfLeadingZeros_0f7a4 14 = .ok (.ireturn, 1) := by decide +kernel
theorem dJ6_numberOfLeadingZeros_0f7a4_15 : decode cJ6_numberOfLeadingZeros_0f7a4 15 = .ok (.bipush 31, 2) := by decide +kernel
theorem dJ6_numberOfLeadingZeros_0f7a4_17 : decode cJ6_numberOfLeadingZeros_0f7a4 17 = .ok (.istore_n 1, 1) := by decide +kernel
theorem dJ6_numberOfLeadingZeros_0f7a4_18 : decode cJ6_numberOfLeadingZeros_0f7a4 18 = .ok (.iload_n 0, 1) := by decide +kernel
theorem dJ6_numberOfLeadingZeros_0f7a4_19 : decode cJ6_numberOfLeadingZeros_0f7a4 19 = .ok (.ldc_w 264, 3) := by decide +kernel
theorem dJ6_numberOfLeadingZeros_0f7a4_22 : decode cJ6_numberOfLeadingZeros_0f7a4 22 = .ok (.if_icmp .lt 11, 3) := by decide +kernel
theorem dJ6_numberOfLeadingZeros_0f7a4_25 : decode cJ6_numberOfLeadingZeros_0f7a4 25 = .ok (.iinc 1 (-16), 3) := by decide +kernel
theorem dJ6_numberOfLeadingZeros_0f7a4_28 : decode cJ6_numberOfLeadingZeros_0f7a4 28 = .ok (.iload_n 0, 1) := by decide +kernel
theorem dJ6_numberOfLeadingZeros_0f7a4_29 : decode cJ6_numberOfLeadingZeros_0f7a4 29 = .ok (.bipush 16, 2) := by decide +kernel
theorem dJ6_numberOfLeadingZeros_0f7a4_31 : decode cJ6_numberOfLeadingZeros_0f7a4 31 = .ok (.iushr, 1) := by decide +kernel
theorem dJ6_numberOfLeadingZeros_0f7a4_32 : decode cJ6_numberOfLeadingZeros_0f7a4 32 = .ok (.istore_n 0, 1) := by decide +kernel
theorem dJ6_numberOfLeadingZeros_0f7a4_33 : decode cJ6_numberOfLeadingZeros_0f7a4 33 = .ok (.iload_n 0, 1) := by decide +kernel
theorem dJ6_numberOfLeadingZeros_0f7a4_34 : decode cJ6_numberOfLeadingZeros_0f7a4 34 = .ok (.sipush 256, 3) := by decide +kernel
theorem dJ6_numberOfLeadingZeros_0f7a4_37 : decode cJ6_numberOfLeadingZeros_0f7a4 37 = .ok (.if_icmp .lt 11, 3) := by decide +kernel
theorem dJ6_numberOfLeadingZeros_0f7a4_40 : decode cJ6_numberOfLeadingZeros_0f7a4 40 = .ok (.iinc 1 (-8), 3) := by decide +kernel
theorem dJ6_numberOfLeadingZeros_0f7a4_43 : decode cJ6_numberOfLeadingZeros_0f7a4 43 = .ok (.iload_n 0, 1) := by decide +kernel
theorem dJ6_numberOfLeadingZeros_0f7a4_44 : decode cJ6_numberOfLeadingZeros_0f7a4 44 = .ok (.bipush 8, 2) := by decide +kernel
theorem dJ6_numberOfLeadingZeros_0f7a4_46 : decode cJ6_numberOfLeadingZeros_0f7a4 46 = .ok (.iushr, 1) := by decide +kernel
theorem dJ6_numberOfLeadingZeros_0f7a4_47 : decode cJ6_numberOfLeadingZeros_0f7a4 47 = .ok (.istore_n 0, 1) := by decide +kernel
theorem dJ6_numberOfLeadingZeros_0f7a4_48 : decode cJ6_numberOfLeadingZeros_0f7a4 48 = .ok (.iload_n 0, 1) := by decide +kernel
theorem dJ6_numberOfLeadingZeros_0f7a4_49 : decode cJ6_numberOfLeadingZeros_0f7a4 49 = .ok (.bipush 16, 2) := by decide +kernel
theorem dJ6_numberOfLeadingZeros_0f7a4_51 : decode cJ6_numberOfLeadingZeros_0f7a4 51 = .ok (.if_icmp .lt 10, 3) := by decide +kernel
theorem dJ6_numberOfLeadingZeros_0f7a4_54 : decode cJ6_numberOfLeadingZeros_0f7a4 54 = .ok (.iinc 1 (-4), 3) := by decide +kernel
theorem dJ6_numberOfLeadingZeros_0f7a4_57 : decode cJ6_numberOfLeadingZeros_0f7a4 57 = .ok (.iload_n 0, 1) := by decide +kernel
theorem dJ6_numberOfLeadingZeros_0f7a4_58 : decode cJ6_numberOfLeadingZeros_0f7a4 58 = .ok (.iconst 4, 1) := by decide +kernel
theorem dJ6_numberOfLeadingZeros_0f7a4_59 : decode cJ6_numberOfLeadingZeros_0f7a4 59 = .ok (.iushr, 1) := by decide +kernel
theorem dJ6_numberOfLeadingZeros_0f7a4_60 : decode cJ6_numberOfLeadingZeros_0f7a4 60 = .ok (.istore_n 0, 1) := by decide +kernel
theorem dJ6_numberOfLeadingZeros_0f7a4_61 : decode cJ6_numberOfLeadingZeros_0f7a4 61 = .ok (.iload_n 0, 1) := by decide +kernel
theorem dJ6_numberOfLeadingZeros_0f7a4_62 : decode cJ6_numberOfLeadingZeros_0f7a4 62 = .ok (.iconst 4, 1) := by decide +kernel
theorem dJ6_numberOfLeadingZeros_0f7a4_63 : decode cJ6_numberOfLeadingZeros_0f7a4 63 = .ok (.if_icmp .lt 10, 3) := by decide +kernel
theorem dJ6_numberOfLeadingZeros_0f7a4_66 : decode cJ6_numberOfLeadingZeros_0f7a4 66 = .ok (.iinc 1 (-2), 3) := by decide +kernel
theorem dJ6_numberOfLeadingZeros_0f7a4_69 : decode cJ6_numberOfLeadingZeros_0f7a4 69 = .ok (.iload_n 0, 1) := by decide +kernel
theorem dJ6_numberOfLeadingZeros_0f7a4_70 : decode cJ6_numberOfLeadingZeros_0f7a4 70 = .ok (.iconst 2, 1) := by decide +kernel
theorem dJ6_numberOfLeadingZeros_0f7a4_71 : decode cJ6_numberOfLeadingZeros_0f7a4 71 = .ok (.iushr, 1) := by decide +kernel
theorem dJ6_numberOfLeadingZeros_0f7a4_72 : decode cJ6_numberOfLeadingZeros_0f7a4 72 = .ok (.istore_n 0, 1) := by decide +kernel
theorem dJ6_numberOfLeadingZeros_0f7a4_73 : decode cJ6_numberOfLeadingZeros_0f7a4 73 = .ok (.iload_n 1, 1) := by decide +kernel
theorem dJ6_numberOfLeadingZeros_0f7a4_74 : decode cJ6_numberOfLeadingZeros_0f7a4 74 = .ok (.iload_n 0, 1) := by decide +kernel
theorem dJ6_numberOfLeadingZeros_0f7a4_75 : decode cJ6_numberOfLeadingZeros_0f7a4 75 = .ok (.iconst 1, 1) := by decide +kernel
theorem dJ6_numberOfLeadingZeros_0f7a4_76 : decode cJ6_numberOfLeadingZeros_0f7a4 76 = .ok (.iushr, 1) := by decide +kernel
theorem dJ6_numberOfLeadingZeros_0f7a4_77 : decode cJ6_numberOfLeadingZeros_0f7a4 77 = .ok (.isub, 1) := by decide +kernel
theorem dJ6_numberOfLeadingZeros_0f7a4_78 : decode cJ6_numberOfLeadingZeros_0f7a4 78 = .ok (.ireturn, 1) := by decide +kernel
theorem dJ6_bitCount_0f7a4_0 : decode cJ6_bitCount_0f7a4 0 = .ok (.iload_n 0, 1) := by decide +kernel
theorem dJ6_bitCount_0f7a4_1 : decode cJ6_bitCount_0f7a4 1 = .ok (.iload_n 0, 1) := by decide +kernel
theorem dJ6_bitCount_0f7a4_2 : decode cJ6_bitCount_0f7a4 2 = .ok (.iconst 1, 1) := by decide +kernel
theorem dJ6_bitCount_0f7a4_3 : decode cJ6_bitCount_0f7a4 3 = .ok (.iushr, 1) := by decide +kernel
theorem dJ6_bitCount_0f7a4_4 : decode cJ6_bitCount_0f7a4 4 = .ok (.ldc_w 265, 3) := by decide +kernel
theorem dJ6_bitCount_0f7a4_7 : decode cJ6_bitCount_0f7a4 7 = .ok (.iand, 1) := by decide +kernel
theorem dJ6_bitCount_0f7a4_8 : decode cJ6_bitCount_0f7a4 8 = .ok (.isub, 1) := by decide +kernel
theorem dJ6_bitCount_0f7a4_9 : decode cJ6_bitCount_0f7a4 9 = .ok (.istore_n 0, 1) := by decide +kernel
theorem dJ6_bitCount_0f7a4_10 : decode cJ6_bitCount_0f7a4 10 = .ok (.iload_n 0, 1) := by decide +kernel
theorem dJ6_bitCount_0f7a4_11 : decode cJ6_bitCount_0f7a4 11 = .ok (.ldc_w 266, 3) := by decide +kernel
theorem dJ6_bitCount_0f7a4_14 : decode cJ6_bitCount_0f7a4 14 = .ok (.iand, 1) := by decide +kernel
theorem dJ6_bitCount_0f7a4_15 : decode cJ6_bitCount_0f7a4 15 = .ok (.iload_n 0, 1) := by decide +kernel
theorem dJ6_bitCount_0f7a4_16 : decode cJ6_bitCount_0f7a4 16 = .ok (.iconst 2, 1) := by decide +kernel
theorem dJ6_bitCount_0f7a4_17 : decode cJ6_bitCount_0f7a4 17 = .ok (.iushr, 1) := by decide +kernel
theorem dJ6_bitCount_0f7a4_18 : decode cJ6_bitCount_0f7a4 18 = .ok (.ldc_w 266, 3) := by decide +kernel
theorem dJ6_bitCount_0f7a4_21 : decode cJ6_bitCount_0f7a4 21 = .ok (.iand, 1) := by decide +kernel
theorem dJ6_bitCount_0f7a4_22 : decode cJ6_bitCount_0f7a4 22 = .ok (.iadd, 1) := by decide +kernel
theorem dJ6_bitCount_0f7a4_23 : decode cJ6_bitCount_0f7a4 23 = .ok (.istore_n 0, 1) := by decide +kernel
theorem dJ6_bitCount_0f7a4_24 : decode cJ6_bitCount_0f7a4 24 = .ok (.iload_n 0, 1) := by decide +kernel
theorem dJ6_bitCount_0f7a4_25 : decode cJ6_bitCount_0f7a4 25 = .ok (.iload_n 0, 1) := by decide +kernel
theorem dJ6_bitCount_0f7a4_26 : decode cJ6_bitCount_0f7a4 26 = .ok (.iconst 4, 1) := by decide +kernel
theorem dJ6_bitCount_0f7a4_27 : decode cJ6_bitCount_0f7a4 27 = .ok (.iushr, 1) := by decide +kernel
theorem dJ6_bitCount_0f7a4_28 : decode cJ6_bitCount_0f7a4 28 = .ok (.iadd, 1) := by decide +kernel
theorem dJ6_bitCount_0f7a4_29 : decode cJ6_bitCount_0f7a4 29 = .ok (.ldc_w 267, 3) := by decide +kernel
theorem dJ6_bitCount_0f7a4_32 : decode cJ6_bitCount_0f7a4 32 = .ok (.iand, 1) := by decide +kernel
theorem dJ6_bitCount_0f7a4_33 : decode cJ6_bitCount_0f7a4 33 = .ok (.istore_n 0, 1) := by decide +kernel
theorem dJ6_bitCount_0f7a4_34 : decode cJ6_bitCount_0f7a4 34 = .ok (.iload_n 0, 1) := by decide +kernel
theorem dJ6_bitCount_0f7a4_35 : decode cJ6_bitCount_0f7a4 35 = .ok (.iload_n 0, 1) := by decide +kernel
theorem dJ6_bitCount_0f7a4_36 : decode cJ6_bitCount_0f7a4 36 = .ok (.bipush 8, 2) := by decide +kernel
theorem dJ6_bitCount_0f7a4_38 : decode cJ6_bitCount_0f7a4 38 = .ok (.iushr, 1) := by decide +kernel
theorem dJ6_bitCount_0f7a4_39 : decode cJ6_bitCount_0f7a4 39 = .ok (.iadd, 1) := by decide +kernel
theorem dJ6_bitCount_0f7a4_40 : decode cJ6_bitCount_0f7a4 40 = .ok (.istore_n 0, 1) := by decide +kernel
theorem dJ6_bitCount_0f7a4_41 : decode cJ6_bitCount_0f7a4 41 = .ok (.iload_n 0, 1) := by decide +kernel
theorem dJ6_bitCount_0f7a4_42 : decode cJ6_bitCount_0f7a4 42 = .ok (.iload_n 0, 1) := by decide +kernel
theorem dJ6_bitCount_0f7a4_43 : decode cJ6_bitCount_0f7a4 43 = .ok (.bipush 16, 2) := by decide +kernel
theorem dJ6_bitCount_0f7a4_45 : decode cJ6_bitCount_0f7a4 45 = .ok (.iushr, 1) := by decide +kernel
theorem dJ6_bitCount_0f7a4_46 : decode cJ6_bitCount_0f7a4 46 = .ok (.iadd, 1) := by decide +kernel
theorem dJ6_bitCount_0f7a4_47 : decode cJ6_bitCount_0f7a4 47 = .ok (.istore_n 0, 1) := by decide +kernel
theorem dJ6_bitCount_0f7a4_48 : decode cJ6_bitCount_0f7a4 48 = .ok (.iload_n 0, 1) := by decide +kernel
theorem dJ6_bitCount_0f7a4_49 : decode cJ6_bitCount_0f7a4 49 = .ok (.bipush 63, 2) := by decide +kernel
theorem dJ6_bitCount_0f7a4_51 : decode cJ6_bitCount_0f7a4 51 = .ok (.iand, 1) := by decide +kernel
theorem dJ6_bitCount_0f7a4_52 : decode cJ6_bitCount_0f7a4 52 = .ok (.ireturn, 1) := by decide +kernel
theorem dJ13_numberOfLeadingZeros_95d88_0 : decode cJ13_numberOfLeadingZeros_95d88 0 = .ok (.lload_n 0, 1) := by decide +kernel
theorem dJ13_numberOfLeadingZeros_95d88_1 : decode cJ13_numberOfLeadingZeros_95d88 1 = .ok (.bipush 32, 2) := by decide +kernel
theorem dJ13_numberOfLeadingZeros_95d88_3 : decode cJ13_numberOfLeadingZeros_95d88 3 = .ok (.lushr, 1) := by decide +kernel
theorem dJ13_numberOfLeadingZeros_95d88_4 : decode cJ13_numberOfLeadingZeros_95d88 4 = .ok (.l2i, 1) := by decide +kernel
theorem dJ13_numberOfLeadingZeros_95d88_5 : decode cJ13_numberOfLeadingZeros_95d88 5 = .ok (.istore_n 2, 1) := by decide +kernel
theorem dJ13_numberOfLeadingZeros_95d88_6 : decode cJ13_numberOfLeadingZeros_95d88 6 = .ok (.iload_n 2, 1) := by decide +kernel
theorem dJ13_numberOfLeadingZeros_95d88_7 : decode cJ13_numberOfLeadingZeros_95d88 7 = .ok (.ifCond .ne 14, 3) := by decide +kernel
theorem dJ13_numberOfLeadingZeros_95d88_10 : decode cJ13_numberOfLeadingZeros_95d88 10 = .ok (.bipush 32, 2) := by decide +kernel
theorem dJ13_numberOfLeadingZeros_95d88_12 : decode cJ13_numberOfLeadingZeros_95d88 12 = .ok (.lload_n 0, 1) := by decide +kernel
theorem dJ13_numberOfLeadingZeros_95d88_13 : decode cJ13_numberOfLeadingZeros_95d88 13 = .ok (.l2i, 1) := by decide +kernel
theorem dJ13_numberOfLeadingZeros_95d88_14 : decode cJ13_numberOfLeadingZeros_95d88 14 = .ok (.invokestatic 308, 3) := by decide +kernel
theorem dJ13_numberOfLeadingZeros_95d88_17 : decode cJ13_numberOfLeadingZeros_95d88 17 = .ok (.iadd, 1) := by decide +kernel
theorem dJ13_numberOfLeadingZeros_95d88_18 : decode cJ13_numberOfLeadingZeros_95d88 18 = .ok (.goto 7, 3) := by decide +kernel
theorem dJ13_numberOfLeadingZeros_95d88_21 : decode cJ13_numberOfLeadingZeros_95d88 21 = .ok (.iload_n 2, 1) := by decide +kernel
theorem dJ13_numberOfLeadingZeros_95d88_22 : decode cJ13_numberOfLeadingZeros_95d88 22 = .ok (.invokestatic 308, 3) := by decide +kernel
theorem dJ13_numberOfLeadingZeros_95d88_25 : decode cJ13_numberOfLeadingZeros_95d88 25 = .ok (.ireturn, 1) := by decide +kernel
theorem dJ9_abs_067f4_0 : decode cJ9_abs_067f4 0 = .ok (.lload_n 0, 1) := by decide +kernel
theorem dJ9_abs_067f4_1 : decode cJ9_abs_067f4 1 = .ok (.lconst 0, 1) := by decide +kernel
theorem dJ9_abs_067f4_2 : decode cJ9_abs_067f4 2 = .ok (.lcmp, 1) := by decide +kernel
theorem dJ9_abs_067f4_3 : decode cJ9_abs_067f4 3 = .ok (.ifCond .ge 8, 3) := by decide +kernel
theorem dJ9_abs_067f4_6 : decode cJ9_abs_067f4 6 = .ok (.lload_n 0, 1) := by decide +kernel
theorem dJ9_abs_067f4_7 : decode cJ9_abs_067f4 7 = .ok (.lneg, 1) := by decide +kernel
theorem dJ9_abs_067f4_8 : decode cJ9_abs_067f4 8 = .ok (.goto 4, 3) := by decide +kernel
theorem dJ9_abs_067f4_11 : decode cJ9_abs_067f4 11 = .ok (.lload_n 0, 1) := by decide +kernel
theorem dJ9_abs_067f4_12 : decode cJ9_abs_067f4 12 = .ok (.lreturn, 1) := by decide +kernel
theorem dJ9_max_7cf53_0 : decode cJ9_max_7cf53 0 = .ok (.iload_n 0, 1) := by decide +kernel
theorem dJ9_max_7cf53_1 : decode cJ9_max_7cf53 1 = .ok (.iload_n 1, 1) := by decide +kernel
theorem dJ9_max_7cf53_2 : decode cJ9_max_7cf53 2 = .ok (.if_icmp .lt 7, 3) := by decide +kernel
theorem dJ9_max_7cf53_5 : decode cJ9_max_7cf53 5 = .ok (.iload_n 0, 1) := by decide +kernel
theorem dJ9_max_7cf53_6 : decode cJ9_max_7cf53 6 = .ok (.goto 4, 3) := by decide +kernel
theorem dJ9_max_7cf53_9 : decode cJ9_max_7cf53 9 = .ok (.iload_n 1, 1) := by decide +kernel
theorem dJ9_max_7cf53_10 : decode cJ9_max_7cf53 10 = .ok (.ireturn, 1) := by decide +kernel
theorem dJ9_min_7cf53_0 : decode cJ9_min_7cf53 0 = .ok (.iload_n 0, 1) := by decide +kernel
theorem dJ9_min_7cf53_1 : decode cJ9_min_7cf53 1 = .ok (.iload_n 1, 1) := by decide +kernel
theorem dJ9_min_7cf53_2 : decode cJ9_min_7cf53 2 = .ok (.if_icmp .gt 7, 3) := by decide +kernel
theorem dJ9_min_7cf53_5 : decode cJ9_min_7cf53 5 = .ok (.iload_n 0, 1) := by decide +kernel
theorem dJ9_min_7cf53_6 : decode cJ9_min_7cf53 6 = .ok (.goto 4, 3) := by decide +kernel
theorem dJ9_min_7cf53_9 : decode cJ9_min_7cf53 9 = .ok (.iload_n 1, 1) := by decide +kernel
theorem dJ9_min_7cf53_10 : decode cJ9_min_7cf53 10 = .ok (.ireturn, 1) := by decide +kernel
theorem dJ0_length_8abf5_0 : decode cJ0_length_8abf5 0 = .ok (.aload_n 0, 1) := by decide +kernel
theorem dJ0_length_8abf5_1 : decode cJ0_length_8abf5 1 = .ok (.getfield 9, 3) := by decide +kernel
theorem dJ0_length_8abf5_4 : decode cJ0_length_8abf5 4 = .ok (.arraylength, 1) := by decide +kernel
theorem dJ0_length_8abf5_5 : decode cJ0_length_8abf5 5 = .ok (.aload_n 0, 1) := by decide +kernel
theorem dJ0_length_8abf5_6 : decode cJ0_length_8abf5 6 = .ok (.invokevirtual 335, 3) := by decide +kernel
theorem dJ0_length_8abf5_9 : decode cJ0_length_8abf5 9 = .ok (.ishr, 1) := by decide +kernel
theorem dJ0_length_8abf5_10 : decode cJ0_length_8abf5 10 = .ok (.ireturn, 1) := by decide +kernel
theorem dJ0_charAt_5068e_0 : decode cJ0_charAt_5068e 0 = .ok (.aload_n 0, 1) := by decide +kernel
theorem dJ0_charAt_5068e_1 : decode cJ0_charAt_5068e 1 = .ok (.invokevirtual 492, 3) := by decide +kernel
theorem dJ0_charAt_5068e_4 : decode cJ0_charAt_5068e 4 = .ok (.ifCond .eq 12, 3) := by decide +kernel
theorem dJ0_charAt_5068e_7 : decode cJ0_charAt_5068e 7 = .ok (.aload_n 0, 1) := by decide +kernel
theorem dJ0_charAt_5068e_8 : decode cJ0_charAt_5068e 8 = .ok (.getfield 9, 3) := by decide +kernel
theorem dJ0_charAt_5068e_11 : decode cJ0_charAt_5068e 11 = .ok (.iload_n 1, 1) := by decide +kernel
theorem dJ0_charAt_5068e_12 : decode cJ0_charAt_5068e 12 = .ok (.invokestatic 495, 3) := by decide +kernel
theorem dJ0_charAt_5068e_15 : decode cJ0_charAt_5068e 15 = .ok (.ireturn, 1) := by decide +kernel
theorem dJ0_charAt_5068e_16 : decode cJ0_charAt_5068e 16 = .ok (.aload_n 0, 1) := by decide +kernel
theorem dJ0_charAt_5068e_17 : decode cJ0_charAt_5068e 17 = .ok (.getfield 9, 3) := by decide +kernel
theorem dJ0_charAt_5068e_20 : decode cJ0_charAt_5068e 20 = .ok (.iload_n 1, 1) := by decide +kernel
theorem dJ0_charAt_5068e_21 : decode cJ0_charAt_5068e 21 = .ok (.invokestatic 498, 3) := by decide +kernel
theorem dJ0_charAt_5068e_24 : decode cJ0_charAt_5068e 24 = .ok (.ireturn, 1) := by decide +kernel
theorem dJ0_indexOf_0f7a4_0 : decode cJ0_indexOf_0f7a4 0 = .ok (.aload_n 0, 1) := by decide +kernel
theorem dJ0_indexOf_0f7a4_1 : decode cJ0_indexOf_0f7a4 1 = .ok (.iload_n 1, 1) := by decide +kernel
theorem dJ0_indexOf_0f7a4_2 : decode cJ0_indexOf_0f7a4 2 = .ok (.iconst 0, 1) := by decide +kernel
theorem dJ0_indexOf_0f7a4_3 : decode cJ0_indexOf_0f7a4 3 = .ok (.invokevirtual 633, 3) := by decide +kernel
theorem dJ0_indexOf_0f7a4_6 : decode cJ0_indexOf_0f7a4 6 = .ok (.ireturn, 1) := by decide +kernel
theorem dJ0_indexOf_7cf53_0 : decode cJ0_indexOf_7cf53 0 = .ok (.aload_n 0, 1) := by decide +kernel
theorem dJ0_indexOf_7cf53_1 : decode cJ0_indexOf_7cf53 1 = .ok (.invokevirtual 492, 3) := by decide +kernel
theorem dJ0_indexOf_7cf53_4 : decode cJ0_indexOf_7cf53 4 = .ok (.ifCond .eq 19, 3) := by decide +kernel
theorem dJ0_indexOf_7cf53_7 : decode cJ0_indexOf_7cf53 7 = .ok (.aload_n 0, 1) := by decide +kernel
theorem dJ0_indexOf_7cf53_8 : decode cJ0_indexOf_7cf53 8 = .ok (.getfield 9, 3) := by decide +kernel
theorem dJ0_indexOf_7cf53_11 : decode cJ0_indexOf_7cf53 11 = .ok (.iload_n 1, 1) := by decide +kernel
theorem dJ0_indexOf_7cf53_12 : decode cJ0_indexOf_7cf53 12 = .ok (.iload_n 2, 1) := by decide +kernel
theorem dJ0_indexOf_7cf53_13 : decode cJ0_indexOf_7cf53 13 = .ok (.aload_n 0, 1) := by decide +kernel
theorem dJ0_indexOf_7cf53_14 : decode cJ0_indexOf_7cf53 14 = .ok (.invokevirtual 505, 3) := by decide +kernel
theorem dJ0_indexOf_7cf53_17 : decode cJ0_indexOf_7cf53 17 = .ok (.invokestatic 637, 3) := by decide +kernel
theorem dJ0_indexOf_7cf53_20 : decode cJ0_indexOf_7cf53 20 = .ok (.goto 16, 3) := by decide +kernel
theorem dJ0_indexOf_7cf53_23 : decode cJ0_indexOf_7cf53 23 = .ok (.aload_n 0, 1) := by decide +kernel
theorem dJ0_indexOf_7cf53_24 : decode cJ0_indexOf_7cf53 24 = .ok (.getfield 9, 3) := by decide +kernel
theorem dJ0_indexOf_7cf53_27 : decode cJ0_indexOf_7cf53 27 = .ok (.iload_n 1, 1) := by decide +kernel
theorem dJ0_indexOf_7cf53_28 : decode cJ0_indexOf_7cf53 28 = .ok (.iload_n 2, 1) := by decide +kernel
theorem dJ0_indexOf_7cf53_29 : decode cJ0_indexOf_7cf53 29 = .ok (.aload_n 0, 1) := by decide +kernel
theorem dJ0_indexOf_7cf53_30 : decode cJ0_indexOf_7cf53 30 = .ok (.invokevirtual 505, 3) := by decide +kernel
theorem dJ0_indexOf_7cf53_33 : decode cJ0_indexOf_7cf53 33 = .ok (.invokestatic 640, 3) := by decide +kernel
theorem dJ0_indexOf_7cf53_36 : decode cJ0_indexOf_7cf53 36 = .ok (.ireturn, 1) := by decide +kernel
theorem dJ0_coder_7d493_0 : decode cJ0_coder_7d493 0 = .ok (.getstatic 38, 3) := by decide +kernel
theorem dJ0_coder_7d493_3 : decode cJ0_coder_7d493 3 = .ok (.ifCond .eq 10, 3) := by decide +kernel
theorem dJ0_coder_7d493_6 : decode cJ0_coder_7d493 6 = .ok (.aload_n 0, 1) := by decide +kernel
theorem dJ0_coder_7d493_7 : decode cJ0_coder_7d493 7 = .ok (.getfield 15, 3) := by decide +kernel
theorem dJ0_coder_7d493_10 : decode cJ0_coder_7d493 10 = .ok (.goto 4, 3) := by decide +kernel
theorem dJ0_coder_7d493_13 : decode cJ0_coder_7d493 13 = .ok (.iconst 1, 1) := by decide +kernel
theorem dJ0_coder_7d493_14 : decode cJ0_coder_7d493 14 = .ok (.ireturn, 1) := by decide +kernel
theorem dJ0_isLatin1_aae02_0 : decode cJ0_isLatin1_aae02 0 = .ok (.getstatic 38, 3) := by decide +kernel
theorem dJ0_isLatin1_aae02_3 : decode cJ0_isLatin1_aae02 3 = .ok (.ifCond .eq 14, 3) := by decide +kernel
theorem dJ0_isLatin1_aae02_6 : decode cJ0_isLatin1_aae02 6 = .ok (.aload_n 0, 1) := by decide +kernel
theorem dJ0_isLatin1_aae02_7 : decode cJ0_isLatin1_aae02 7 = .ok (.getfield 15, 3) := by decide +kernel
theorem dJ0_isLatin1_aae02_10 : decode cJ0_isLatin1_aae02 10 = .ok (.ifCond .ne 7, 3) := by decide +kernel
theorem dJ0_isLatin1_aae02_13 : decode cJ0_isLatin1_aae02 13 = .ok (.iconst 1, 1) := by decide +kernel
theorem dJ0_isLatin1_aae02_14 : decode cJ0_isLatin1_aae02 14 = .ok (.goto 4, 3) := by decide +kernel
theorem dJ0_isLatin1_aae02_17 : decode cJ0_isLatin1_aae02 17 = .ok (.iconst 0, 1) := by decide +kernel
theorem dJ0_isLatin1_aae02_18 : decode cJ0_isLatin1_aae02 18 = .ok (.ireturn, 1) := by decide +kernel
theorem dJ0_checkIndex_df160_0 : decode cJ0_checkIndex_df160 0 = .ok (.iload_n 0, 1) := by decide +kernel
theorem dJ0_checkIndex_df160_1 : decode cJ0_checkIndex_df160 1 = .ok (.iload_n 1, 1) := by decide +kernel
theorem dJ0_checkIndex_df160_2 : decode cJ0_checkIndex_df160 2 = .ok (.getstatic 1053, 3) := by decide +kernel
theorem dJ0_checkIndex_df160_5 : decode cJ0_checkIndex_df160 5 = .ok (.invokestatic 1059, 3) := by decide +kernel
theorem dJ0_checkIndex_df160_8 : decode cJ0_checkIndex_df160 8 = .ok (.pop, 1) := by decide +kernel
theorem dJ0_checkIndex_df160_9 : decode cJ0_checkIndex_df160 9 = .ok (.return_, 1) := by decide +kernel
theorem dJ0_checkBoundsBeginEnd_23922_0 : decode cJ0_checkBoundsBeginEnd_23922 0 = .ok (.iload_n 0, 1) := by decide +kernel
theorem dJ0_checkBoundsBeginEnd_23922_1 : decode cJ0_checkBoundsBeginEnd_23922 1 = .ok (.iload_n 1, 1) := by decide +kernel
theorem dJ0_checkBoundsBeginEnd_23922_2 : decode cJ0_checkBoundsBeginEnd_23922 2 = .ok (.iload_n 2, 1) := by decide +kernel
theorem dJ0_checkBoundsBeginEnd_23922_3 : decode cJ0_checkBoundsBeginEnd_23922 3 = .ok (.getstatic 1053, 3) := by decide +kernel
theorem dJ0_checkBoundsBeginEnd_23922_6 : decode cJ0_checkBoundsBeginEnd_23922 6 = .ok (.invokestatic 1062, 3) := by decide +kernel
theorem dJ0_checkBoundsBeginEnd_23922_9 : decode cJ0_checkBoundsBeginEnd_23922 9 = .ok (.pop, 1) := by decide +kernel
theorem dJ0_checkBoundsBeginEnd_23922_10 : decode cJ0_checkBoundsBeginEnd_23922 10 = .ok (.return_, 1) := by decide +kernel
theorem dJ1_charAt_3b067_0 : decode cJ1_charAt_3b067 0 = .ok (.iload_n 1, 1) := by decide +kernel
theorem dJ1_charAt_3b067_1 : decode cJ1_charAt_3b067 1 = .ok (.aload_n 0, 1) := by decide +kernel
theorem dJ1_charAt_3b067_2 : decode cJ1_charAt_3b067 2 = .ok (.arraylength, 1) := by decide +kernel
theorem dJ1_charAt_3b067_3 : decode cJ1_charAt_3b067 3 = .ok (.invokestatic 9, 3) := by decide +kernel
theorem dJ1_charAt_3b067_6 : decode cJ1_charAt_3b067 6 = .ok (.aload_n 0, 1) := by decide +kernel
theorem dJ1_charAt_3b067_7 : decode cJ1_charAt_3b067 7 = .ok (.iload_n 1, 1) := by decide +kernel
theorem dJ1_charAt_3b067_8 : decode cJ1_charAt_3b067 8 = .ok (.baload, 1) := by decide +kernel
theorem dJ1_charAt_3b067_9 : decode cJ1_charAt_3b067 9 = .ok (.sipush 255, 3) := by decide +kernel
theorem dJ1_charAt_3b067_12 : decode cJ1_charAt_3b067 12 = .ok (.iand, 1) := by decide +kernel
theorem dJ1_charAt_3b067_13 : decode cJ1_charAt_3b067 13 = .ok (.i2c, 1) := by decide +kernel
theorem dJ1_charAt_3b067_14 : decode cJ1_charAt_3b067 14 = .ok (.ireturn, 1) := by decide +kernel
theorem dJ1_canEncode_9a6ad_0 : decode cJ1_canEncode_9a6ad 0 = .ok (.iload_n 0, 1) := by decide +kernel
theorem dJ1_canEncode_9a6ad_1 : decode cJ1_canEncode_9a6ad 1 = .ok (.ifCond .lt 14, 3) := by decide +kernel
theorem dJ1_canEncode_9a6ad_4 : decode cJ1_canEncode_9a6ad 4 = .ok (.iload_n 0, 1) := by decide +kernel
theorem dJ1_canEncode_9a6ad_5 : decode cJ1_canEncode_9a6ad 5 = .ok (.sipush 255, 3) := by decide +kernel
theorem dJ1_canEncode_9a6ad_8 : decode cJ1_canEncode_9a6ad 8 = .ok (.if_icmp .gt 7, 3) := by decide +kernel
theorem dJ1_canEncode_9a6ad_11 : decode cJ1_canEncode_9a6ad 11 = .ok (.iconst 1, 1) := by decide +kernel
theorem dJ1_canEncode_9a6ad_12 : decode cJ1_canEncode_9a6ad 12 = .ok (.goto 4, 3) := by decide +kernel
theorem dJ1_canEncode_9a6ad_15 : decode cJ1_canEncode_9a6ad 15 = .ok (.iconst 0, 1) := by decide +kernel
theorem dJ1_canEncode_9a6ad_16 : decode cJ1_canEncode_9a6ad 16 = .ok (.ireturn, 1) := by decide +kernel
theorem dJ1_indexOf_4cfef_0 : decode cJ1_indexOf_4cfef 0 = .ok (.iload_n 1, 1) := by decide +kernel
theorem dJ1_indexOf_4cfef_1 : decode cJ1_indexOf_4cfef 1 = .ok (.invokestatic 88, 3) := by decide +kernel
theorem dJ1_indexOf_4cfef_4 : decode cJ1_indexOf_4cfef 4 = .ok (.ifCond .ne 5, 3) := by decide +kernel
theorem dJ1_indexOf_4cfef_7 : decode cJ1_indexOf_4cfef 7 = .ok (.iconst (-1), 1) := by decide +kernel
theorem dJ1_indexOf_4cfef_8 : decode cJ1_indexOf_4cfef 8 = .ok (.ireturn, 1) := by decide +kernel
theorem dJ1_indexOf_4cfef_9 : decode cJ1_indexOf_4cfef 9 = .ok (.iload_n 2, 1) := by decide +kernel
theorem dJ1_indexOf_4cfef_10 : decode cJ1_indexOf_4cfef 10 = .ok (.iconst 0, 1) := by decide +kernel
theorem dJ1_indexOf_4cfef_11 : decode cJ1_indexOf_4cfef 11 = .ok (.invokestatic 92, 3) := by decide +kernel
theorem dJ1_indexOf_4cfef_14 : decode cJ1_indexOf_4cfef 14 = .ok (.istore_n 2, 1) := by decide +kernel
theorem dJ1_indexOf_4cfef_15 : decode cJ1_indexOf_4cfef 15 = .ok (.iload_n 3, 1) := by decide +kernel
theorem dJ1_indexOf_4cfef_16 : decode cJ1_indexOf_4cfef 16 = .ok (.aload_n 0, 1) := by decide +kernel
theorem dJ1_indexOf_4cfef_17 : decode cJ1_indexOf_4cfef 17 = .ok (.arraylength, 1) := by decide +kernel
theorem dJ1_indexOf_4cfef_18 : decode cJ1_indexOf_4cfef 18 = .ok (.invokestatic 38, 3) := by decide +kernel
theorem dJ1_indexOf_4cfef_21 : decode cJ1_indexOf_4cfef 21 = .ok (.istore_n 3, 1) := by decide +kernel
theorem dJ1_indexOf_4cfef_22 : decode cJ1_indexOf_4cfef 22 = .ok (.iload_n 2, 1) := by decide +kernel
theorem dJ1_indexOf_4cfef_23 : decode cJ1_indexOf_4cfef 23 = .ok (.iload_n 3, 1) := by decide +kernel
theorem dJ1_indexOf_4cfef_24 : decode cJ1_indexOf_4cfef 24 = .ok (.if_icmp .lt 5, 3) := by decide +kernel
theorem dJ1_indexOf_4cfef_27 : decode cJ1_indexOf_4cfef 27 = .ok (.iconst (-1), 1) := by decide +kernel
theorem dJ1_indexOf_4cfef_28 : decode cJ1_indexOf_4cfef 28 = .ok (.ireturn, 1) := by decide +kernel
theorem dJ1_indexOf_4cfef_29 : decode cJ1_indexOf_4cfef 29 = .ok (.aload_n 0, 1) := by decide +kernel
theorem dJ1_indexOf_4cfef_30 : decode cJ1_indexOf_4cfef 30 = .ok (.iload_n 1, 1) := by decide +kernel
theorem dJ1_indexOf_4cfef_31 : decode cJ1_indexOf_4cfef 31 = .ok (.iload_n 2, 1) := by decide +kernel
theorem dJ1_indexOf_4cfef_32 : decode cJ1_indexOf_4cfef 32 = .ok (.iload_n 3, 1) := by decide +kernel
theorem dJ1_indexOf_4cfef_33 : decode cJ1_indexOf_4cfef 33 = .ok (.invokestatic 95, 3) := by decide +kernel
theorem dJ1_indexOf_4cfef_36 : decode cJ1_indexOf_4cfef 36 = .ok (.ireturn, 1) := by decide +kernel
theorem dJ1_indexOfChar_4cfef_0 : decode cJ1_indexOfChar_4cfef 0 = .ok (.iload_n 1, 1) := by decide +kernel
theorem dJ1_indexOfChar_4cfef_1 : decode cJ1_indexOfChar_4cfef 1 = .ok (.i2b, 1) := by decide +kernel
theorem dJ1_indexOfChar_4cfef_2 : decode cJ1_indexOfChar_4cfef 2 = .ok (.istore 4, 2) := by decide +kernel
theorem dJ1_indexOfChar_4cfef_4 : decode cJ1_indexOfChar_4cfef 4 = .ok (.iload_n 2, 1) := by decide +kernel
theorem dJ1_indexOfChar_4cfef_5 : decode cJ1_indexOfChar_4cfef 5 = .ok (.istore 5, 2) := by decide +kernel
theorem dJ1_indexOfChar_4cfef_7 : decode cJ1_indexOfChar_4cfef 7 = .ok (.iload 5, 2) := by decide +kernel
theorem dJ1_indexOfChar_4cfef_9 : decode cJ1_indexOfChar_4cfef 9 = .ok (.iload_n 3, 1) := by decide +kernel
theorem dJ1_indexOfChar_4cfef_10 : decode cJ1_indexOfChar_4cfef 10 = .ok (.if_icmp .ge 21, 3) := by decide +kernel
theorem dJ1_indexOfChar_4cfef_13 : decode cJ1_indexOfChar_4cfef 13 = .ok (.aload_n 0, 1) := by decide +kernel
theorem dJ1_indexOfChar_4cfef_14 : decode cJ1_indexOfChar_4cfef 14 = .ok (.iload 5, 2) := by decide +kernel
theorem dJ1_indexOfChar_4cfef_16 : decode cJ1_indexOfChar_4cfef 16 = .ok (.baload, 1) := by decide +kernel
theorem dJ1_indexOfChar_4cfef_17 : decode cJ1_indexOfChar_4cfef 17 = .ok (.iload 4, 2) := by decide +kernel
theorem dJ1_indexOfChar_4cfef_19 : decode cJ1_indexOfChar_4cfef 19 = .ok (.if_icmp .ne 6, 3) := by decide +kernel
theorem dJ1_indexOfChar_4cfef_22 : decode cJ1_indexOfChar_4cfef 22 = .ok (.iload 5, 2) := by decide +kernel
theorem dJ1_indexOfChar_4cfef_24 : decode cJ1_indexOfChar_4cfef 24 = .ok (.ireturn, 1) := by decide +kernel
theorem dJ1_indexOfChar_4cfef_25 : decode cJ1_indexOfChar_4cfef 25 = .ok (.iinc 5 1, 3) := by decide +kernel
theorem dJ1_indexOfChar_4cfef_28 : decode cJ1_indexOfChar_4cfef 28 = .ok (.goto (-21), 3) := by decide +kernel
theorem dJ1_indexOfChar_4cfef_31 : decode cJ1_indexOfChar_4cfef 31 = .ok (.iconst (-1), 1) := by decide +kernel
theorem dJ1_indexOfChar_4cfef_32 : decode cJ1_indexOfChar_4cfef 32 = .ok (.ireturn, 1) := by decide +kernel
theorem dJ2_getChar_3b067_0 : decode cJ2_getChar_3b067 0 = .ok (.getstatic 44, 3) := by decide +kernel
theorem dJ2_getChar_3b067_3 : decode cJ2_getChar_3b067 3 = .ok (.ifCond .ne 25, 3) := by decide +kernel
theorem dJ2_getChar_3b067_6 : decode cJ2_getChar_3b067 6 = .ok (.iload_n 1, 1) := by decide +kernel
theorem dJ2_getChar_3b067_7 : decode cJ2_getChar_3b067 7 = .ok (.ifCond .lt 11, 3) := by decide +kernel
theorem dJ2_getChar_3b067_10 : decode cJ2_getChar_3b067 10 = .ok (.iload_n 1, 1) := by decide +kernel
theorem dJ2_getChar_3b067_11 : decode cJ2_getChar_3b067 11 = .ok (.aload_n 0, 1) := by decide +kernel
theorem dJ2_getChar_3b067_12 : decode cJ2_getChar_3b067 12 = .ok (.invokestatic 48, 3) := by decide +kernel
theorem dJ2_getChar_3b067_15 : decode cJ2_getChar_3b067 15 = .ok (.if_icmp .lt 13, 3) := by decide +kernel
theorem dJ2_getChar_3b067_18 : decode cJ2_getChar_3b067 18 = .ok (.new 52, 3) := by decide +kernel
theorem dJ2_getChar_3b067_21 : decode cJ2_getChar_3b067 21 = .ok (.dup, 1) := by decide +kernel
theorem dJ2_getChar_3b067_22 : decode cJ2_getChar_3b067 22 = .ok (.ldc 54, 2) := by decide +kernel
theorem dJ2_getChar_3b067_24 : decode cJ2_getChar_3b067 24 = .ok (.invokespecial 56, 3) := by decide +kernel
theorem dJ2_getChar_3b067_27 : decode cJ2_getChar_3b067 27 = .ok (.athrow, 1) := by decide +kernel
theorem dJ2_getChar_3b067_28 : decode cJ2_getChar_3b067 28 = .ok (.iload_n 1, 1) := by decide +kernel
theorem dJ2_getChar_3b067_29 : decode cJ2_getChar_3b067 29 = .ok (.iconst 1, 1) := by decide +kernel
theorem dJ2_getChar_3b067_30 : decode cJ2_getChar_3b067 30 = .ok (.ishl, 1) := by decide +kernel
theorem dJ2_getChar_3b067_31 : decode cJ2_getChar_3b067 31 = .ok (.istore_n 1, 1) := by decide +kernel
theorem dJ2_getChar_3b067_32 : decode cJ2_getChar_3b067 32 = .ok (.aload_n 0, 1) := by decide +kernel
theorem dJ2_getChar_3b067_33 : decode cJ2_getChar_3b067 33 = .ok (.iload_n 1, 1) := by decide +kernel
theorem dJ2_getChar_3b067_34 : decode cJ2_getChar_3b067 34 = .ok (.iinc 1 1, 3) := by decide +kernel
theorem dJ2_getChar_3b067_37 : decode cJ2_getChar_3b067 37 = .ok (.baload, 1) := by decide +kernel
theorem dJ2_getChar_3b067_38 : decode cJ2_getChar_3b067 38 = .ok (.sipush 255, 3) := by decide +kernel
theorem dJ2_getChar_3b067_41 : decode cJ2_getChar_3b067 41 = .ok (.iand, 1) := by decide +kernel
theorem dJ2_getChar_3b067_42 : decode cJ2_getChar_3b067 42 = .ok (.getstatic 59, 3) := by decide +kernel
theorem dJ2_getChar_3b067_45 : decode cJ2_getChar_3b067 45 = .ok (.ishl, 1) := by decide +kernel
theorem dJ2_getChar_3b067_46 : decode cJ2_getChar_3b067 46 = .ok (.aload_n 0, 1) := by decide +kernel
theorem dJ2_getChar_3b067_47 : decode cJ2_getChar_3b067 47 = .ok (.iload_n 1, 1) := by decide +kernel
theorem dJ2_getChar_3b067_48 : decode cJ2_getChar_3b067 48 = .ok (.baload, 1) := by decide +kernel
theorem dJ2_getChar_3b067_49 : decode cJ2_getChar_3b067 49 = .ok (.sipush 255, 3) := by decide +kernel
theorem dJ2_getChar_3b067_52 : decode cJ2_getChar_3b067 52 = .ok (.iand, 1) := by decide +kernel
theorem dJ2_getChar_3b067_53 : decode cJ2_getChar_3b067 53 = .ok (.getstatic 63, 3) := by decide +kernel
theorem dJ2_getChar_3b067_56 : decode cJ2_getChar_3b067 56 = .ok (.ishl, 1) := by decide +kernel
theorem dJ2_getChar_3b067_57 : decode cJ2_getChar_3b067 57 = .ok (.ior, 1) := by decide +kernel
theorem dJ2_getChar_3b067_58 : decode cJ2_getChar_3b067 58 = .ok (.i2c, 1) := by decide +kernel
theorem dJ2_getChar_3b067_59 : decode cJ2_getChar_3b067 59 = .ok (.ireturn, 1) := by decide +kernel
theorem dJ2_length_9d52b_0 : decode cJ2_length_9d52b 0 = .ok (.aload_n 0, 1) := by decide +kernel
theorem dJ2_length_9d52b_1 : decode cJ2_length_9d52b 1 = .ok (.arraylength, 1) := by decide +kernel
theorem dJ2_length_9d52b_2 : decode cJ2_length_9d52b 2 = .ok (.iconst 1, 1) := by decide +kernel
theorem dJ2_length_9d52b_3 : decode cJ2_length_9d52b 3 = .ok (.ishr, 1) := by decide +kernel
theorem dJ2_length_9d52b_4 : decode cJ2_length_9d52b 4 = .ok (.ireturn, 1) := by decide +kernel
theorem dJ2_indexOf_4cfef_0 : decode cJ2_indexOf_4cfef 0 = .ok (.iload_n 2, 1) := by decide +kernel
theorem dJ2_indexOf_4cfef_1 : decode cJ2_indexOf_4cfef 1 = .ok (.iconst 0, 1) := by decide +kernel
theorem dJ2_indexOf_4cfef_2 : decode cJ2_indexOf_4cfef 2 = .ok (.invokestatic 224, 3) := by decide +kernel
theorem dJ2_indexOf_4cfef_5 : decode cJ2_indexOf_4cfef 5 = .ok (.istore_n 2, 1) := by decide +kernel
theorem dJ2_indexOf_4cfef_6 : decode cJ2_indexOf_4cfef 6 = .ok (.iload_n 3, 1) := by decide +kernel
theorem dJ2_indexOf_4cfef_7 : decode cJ2_indexOf_4cfef 7 = .ok (.aload_n 0, 1) := by decide +kernel
theorem dJ2_indexOf_4cfef_8 : decode cJ2_indexOf_4cfef 8 = .ok (.arraylength, 1) := by decide +kernel
theorem dJ2_indexOf_4cfef_9 : decode cJ2_indexOf_4cfef 9 = .ok (.iconst 1, 1) := by decide +kernel
theorem dJ2_indexOf_4cfef_10 : decode cJ2_indexOf_4cfef 10 = .ok (.ishr, 1) := by decide +kernel
theorem dJ2_indexOf_4cfef_11 : decode cJ2_indexOf_4cfef 11 = .ok (.invokestatic 183, 3) := by decide +kernel
theorem dJ2_indexOf_4cfef_14 : decode cJ2_indexOf_4cfef 14 = .ok (.istore_n 3, 1) := by decide +kernel
theorem dJ2_indexOf_4cfef_15 : decode cJ2_indexOf_4cfef 15 = .ok (.iload_n 2, 1) := by decide +kernel
theorem dJ2_indexOf_4cfef_16 : decode cJ2_indexOf_4cfef 16 = .ok (.iload_n 3, 1) := by decide +kernel
theorem dJ2_indexOf_4cfef_17 : decode cJ2_indexOf_4cfef 17 = .ok (.if_icmp .lt 5, 3) := by decide +kernel
theorem dJ2_indexOf_4cfef_20 : decode cJ2_indexOf_4cfef 20 = .ok (.iconst (-1), 1) := by decide +kernel
theorem dJ2_indexOf_4cfef_21 : decode cJ2_indexOf_4cfef 21 = .ok (.ireturn, 1) := by decide +kernel
theorem dJ2_indexOf_4cfef_22 : decode cJ2_indexOf_4cfef 22 = .ok (.iload_n 1, 1) := by decide +kernel
theorem dJ2_indexOf_4cfef_23 : decode cJ2_indexOf_4cfef 23 = .ok (.ldc 227, 2) := by decide +kernel
theorem dJ2_indexOf_4cfef_25 : decode cJ2_indexOf_4cfef 25 = .ok (.if_icmp .ge 11, 3) := by decide +kernel
theorem dJ2_indexOf_4cfef_28 : decode cJ2_indexOf_4cfef 28 = .ok (.aload_n 0, 1) := by decide +kernel
theorem dJ2_indexOf_4cfef_29 : decode cJ2_indexOf_4cfef 29 = .ok (.iload_n 1, 1) := by decide +kernel
theorem dJ2_indexOf_4cfef_30 : decode cJ2_indexOf_4cfef 30 = .ok (.iload_n 2, 1) := by decide +kernel
theorem dJ2_indexOf_4cfef_31 : decode cJ2_indexOf_4cfef 31 = .ok (.iload_n 3, 1) := by decide +kernel
theorem dJ2_indexOf_4cfef_32 : decode cJ2_indexOf_4cfef 32 = .ok (.invokestatic 228, 3) := by decide +kernel
theorem dJ2_indexOf_4cfef_35 : decode cJ2_indexOf_4cfef 35 = .ok (.ireturn, 1) := by decide +kernel
theorem dJ2_indexOf_4cfef_36 : decode cJ2_indexOf_4cfef 36 = .ok (.aload_n 0, 1) := by decide +kernel
theorem dJ2_indexOf_4cfef_37 : decode cJ2_indexOf_4cfef 37 = .ok (.iload_n 1, 1) := by decide +kernel
theorem dJ2_indexOf_4cfef_38 : decode cJ2_indexOf_4cfef 38 = .ok (.iload_n 2, 1) := by decide +kernel
theorem dJ2_indexOf_4cfef_39 : decode cJ2_indexOf_4cfef 39 = .ok (.iload_n 3, 1) := by decide +kernel
theorem dJ2_indexOf_4cfef_40 : decode cJ2_indexOf_4cfef 40 = .ok (.invokestatic 232, 3) := by decide +kernel
theorem dJ2_indexOf_4cfef_43 : decode cJ2_indexOf_4cfef 43 = .ok (.ireturn, 1) := by decide +kernel
theorem dJ2_indexOfChar_4cfef_0 : decode cJ2_indexOfChar_4cfef 0 = .ok (.iload_n 2, 1) := by decide +kernel
theorem dJ2_indexOfChar_4cfef_1 : decode cJ2_indexOfChar_4cfef 1 = .ok (.iload_n 3, 1) := by decide +kernel
theorem dJ2_indexOfChar_4cfef_2 : decode cJ2_indexOfChar_4cfef 2 = .ok (.aload_n 0, 1) := by decide +kernel
theorem dJ2_indexOfChar_4cfef_3 : decode cJ2_indexOfChar_4cfef 3 = .ok (.invokestatic 96, 3) := by decide +kernel
theorem dJ2_indexOfChar_4cfef_6 : decode cJ2_indexOfChar_4cfef 6 = .ok (.aload_n 0, 1) := by decide +kernel
theorem dJ2_indexOfChar_4cfef_7 : decode cJ2_indexOfChar_4cfef 7 = .ok (.iload_n 1, 1) := by decide +kernel
theorem dJ2_indexOfChar_4cfef_8 : decode cJ2_indexOfChar_4cfef 8 = .ok (.iload_n 2, 1) := by decide +kernel
theorem dJ2_indexOfChar_4cfef_9 : decode cJ2_indexOfChar_4cfef 9 = .ok (.iload_n 3, 1) := by decide +kernel
theorem dJ2_indexOfChar_4cfef_10 : decode cJ2_indexOfChar_4cfef 10 = .ok (.invokestatic 244, 3) := by decide +kernel
theorem dJ2_indexOfChar_4cfef_13 : decode cJ2_indexOfChar_4cfef 13 = .ok (.ireturn, 1) := by decide +kernel
theorem dJ2_indexOfCharUnsafe_4cfef_0 : decode cJ2_indexOfCharUnsafe_4cfef 0 = .ok (.iload_n 2, 1) := by decide +kernel
theorem dJ2_indexOfCharUnsafe_4cfef_1 : decode cJ2_indexOfCharUnsafe_4cfef 1 = .ok (.istore 4, 2) := by decide +kernel
theorem dJ2_indexOfCharUnsafe_4cfef_3 : decode cJ2_indexOfCharUnsafe_4cfef 3 = .ok (.iload 4, 2) := by decide +kernel
theorem dJ2_indexOfCharUnsafe_4cfef_5 : decode cJ2_indexOfCharUnsafe_4cfef 5 = .ok (.iload_n 3, 1) := by decide +kernel
theorem dJ2_indexOfCharUnsafe_4cfef_6 : decode cJ2_indexOfCharUnsafe_4cfef 6 = .ok (.if_icmp .ge 22, 3) := by decide +kernel
theorem dJ2_indexOfCharUnsafe_4cfef_9 : decode cJ2_indexOfCharUnsafe_4cfef 9 = .ok (.aload_n 0, 1) := by decide +kernel
theorem dJ2_indexOfCharUnsafe_4cfef_10 : decode cJ2_indexOfCharUnsafe_4cfef 10 = .ok (.iload 4, 2) := by decide +kernel
theorem dJ2_indexOfCharUnsafe_4cfef_12 : decode cJ2_indexOfCharUnsafe_4cfef 12 = .ok (.invokestatic 71, 3) := by decide +kernel
theorem dJ2_indexOfCharUnsafe_4cfef_15 : decode cJ2_indexOfCharUnsafe_4cfef 15 = .ok (.iload_n 1, 1) := by decide +kernel
theorem dJ2_indexOfCharUnsafe_4cfef_16 : decode cJ2_indexOfCharUnsafe_4cfef 16 = .ok (.if_icmp .ne 6, 3) := by decide +kernel
theorem dJ2_indexOfCharUnsafe_4cfef_19 : decode cJ2_indexOfCharUnsafe_4cfef 19 = .ok (.iload 4, 2) := by decide +kernel
theorem dJ2_indexOfCharUnsafe_4cfef_21 : decode cJ2_indexOfCharUnsafe_4cfef 21 = .ok (.ireturn, 1) := by decide +kernel
theorem dJ2_indexOfCharUnsafe_4cfef_22 : decode cJ2_indexOfCharUnsafe_4cfef 22 = .ok (.iinc 4 1, 3) := by decide +kernel
theorem dJ2_indexOfCharUnsafe_4cfef_25 : decode cJ2_indexOfCharUnsafe_4cfef 25 = .ok (.goto (-22), 3) := by decide +kernel
theorem dJ2_indexOfCharUnsafe_4cfef_28 : decode cJ2_indexOfCharUnsafe_4cfef 28 = .ok (.iconst (-1), 1) := by decide +kernel
theorem dJ2_indexOfCharUnsafe_4cfef_29 : decode cJ2_indexOfCharUnsafe_4cfef 29 = .ok (.ireturn, 1) := by decide +kernel
theorem dJ2_indexOfSupplementary_4cfef_0 : decode cJ2_indexOfSupplementary_4cfef 0 = .ok (.iload_n 1, 1) := by decide +kernel
theorem dJ2_indexOfSupplementary_4cfef_1 : decode cJ2_indexOfSupplementary_4cfef 1 = .ok (.invokestatic 164, 3) := by decide +kernel
theorem dJ2_indexOfSupplementary_4cfef_4 : decode cJ2_indexOfSupplementary_4cfef 4 = .ok (.ifCond .eq 65, 3) := by decide +kernel
theorem dJ2_indexOfSupplementary_4cfef_7 : decode cJ2_indexOfSupplementary_4cfef 7 = .ok (.iload_n 1, 1) := by decide +kernel
theorem dJ2_indexOfSupplementary_4cfef_8 : decode cJ2_indexOfSupplementary_4cfef 8 = .ok (.invokestatic 157, 3) := by decide +kernel
theorem dJ2_indexOfSupplementary_4cfef_11 : decode cJ2_indexOfSupplementary_4cfef 11 = .ok (.istore 4, 2) := by decide +kernel
theorem dJ2_indexOfSupplementary_4cfef_13 : decode cJ2_indexOfSupplementary_4cfef 13 = .ok (.iload_n 1, 1) := by decide +kernel
theorem dJ2_indexOfSupplementary_4cfef_14 : decode cJ2_indexOfSupplementary_4cfef 14 = .ok (.invokestatic 161, 3) := by decide +kernel
theorem dJ2_indexOfSupplementary_4cfef_17 : decode cJ2_indexOfSupplementary_4cfef 17 = .ok (.istore 5, 2) := by decide +kernel
theorem dJ2_indexOfSupplementary_4cfef_19 : decode cJ2_indexOfSupplementary_4cfef 19 = .ok (.iload_n 2, 1) := by decide +kernel
theorem dJ2_indexOfSupplementary_4cfef_20 : decode cJ2_indexOfSupplementary_4cfef 20 = .ok (.iload_n 3, 1) := by decide +kernel
theorem dJ2_indexOfSupplementary_4cfef_21 : decode cJ2_indexOfSupplementary_4cfef 21 = .ok (.aload_n 0, 1) := by decide +kernel
theorem dJ2_indexOfSupplementary_4cfef_22 : decode cJ2_indexOfSupplementary_4cfef 22 = .ok (.invokestatic 96, 3) := by decide +kernel
theorem dJ2_indexOfSupplementary_4cfef_25 : decode cJ2_indexOfSupplementary_4cfef 25 = .ok (.iload_n 2, 1) := by decide +kernel
theorem dJ2_indexOfSupplementary_4cfef_26 : decode cJ2_indexOfSupplementary_4cfef 26 = .ok (.istore 6, 2) := by decide +kernel
theorem dJ2_indexOfSupplementary_4cfef_28 : decode cJ2_indexOfSupplementary_4cfef 28 = .ok (.iload 6, 2) := by decide +kernel
theorem dJ2_indexOfSupplementary_4cfef_30 : decode cJ2_indexOfSupplementary_4cfef 30 = .ok (.iload_n 3, 1) := by decide +kernel
theorem dJ2_indexOfSupplementary_4cfef_31 : decode cJ2_indexOfSupplementary_4cfef 31 = .ok (.iconst 1, 1) := by decide +kernel
theorem dJ2_indexOfSupplementary_4cfef_32 : decode cJ2_indexOfSupplementary_4cfef 32 = .ok (.isub, 1) := by decide +kernel
theorem dJ2_indexOfSupplementary_4cfef_33 : decode cJ2_indexOfSupplementary_4cfef 33 = .ok (.if_icmp .ge 36, 3) := by decide +kernel
theorem dJ2_indexOfSupplementary_4cfef_36 : decode cJ2_indexOfSupplementary_4cfef 36 = .ok (.aload_n 0, 1) := by decide +kernel
theorem dJ2_indexOfSupplementary_4cfef_37 : decode cJ2_indexOfSupplementary_4cfef 37 = .ok (.iload 6, 2) := by decide +kernel
theorem dJ2_indexOfSupplementary_4cfef_39 : decode cJ2_indexOfSupplementary_4cfef 39 = .ok (.invokestatic 71, 3) := by decide +kernel
theorem dJ2_indexOfSupplementary_4cfef_42 : decode cJ2_indexOfSupplementary_4cfef 42 = .ok (.iload 4, 2) := by decide +kernel
theorem dJ2_indexOfSupplementary_4cfef_44 : decode cJ2_indexOfSupplementary_4cfef 44 = .ok (.if_icmp .ne 19, 3) := by decide +kernel
theorem dJ2_indexOfSupplementary_4cfef_47 : decode cJ2_indexOfSupplementary_4cfef 47 = .ok (.aload_n 0, 1) := by decide +kernel
theorem dJ2_indexOfSupplementary_4cfef_48 : decode cJ2_indexOfSupplementary_4cfef 48 = .ok (.iload 6, 2) := by decide +kernel
theorem dJ2_indexOfSupplementary_4cfef_50 : decode cJ2_indexOfSupplementary_4cfef 50 = .ok (.iconst 1, 1) := by decide +kernel
theorem dJ2_indexOfSupplementary_4cfef_51 : decode cJ2_indexOfSupplementary_4cfef 51 = .ok (.iadd, 1) := by decide +kernel
theorem dJ2_indexOfSupplementary_4cfef_52 : decode cJ2_indexOfSupplementary_4cfef 52 = .ok (.invokestatic 71, 3) := by decide +kernel
theorem dJ2_indexOfSupplementary_4cfef_55 : decode cJ2_indexOfSupplementary_4cfef 55 = .ok (.iload 5, 2) := by decide +kernel
theorem dJ2_indexOfSupplementary_4cfef_57 : decode cJ2_indexOfSupplementary_4cfef 57 = .ok (.if_icmp .ne 6, 3) := by decide +kernel
theorem dJ2_indexOfSupplementary_4cfef_60 : decode cJ2_indexOfSupplementary_4cfef 60 = .ok (.iload 6, 2) := by decide +kernel
theorem dJ2_indexOfSupplementary_4cfef_62 : decode cJ2_indexOfSupplementary_4cfef 62 = .ok (.ireturn, 1) := by decide +kernel
theorem dJ2_indexOfSupplementary_4cfef_63 : decode cJ2_indexOfSupplementary_4cfef 63 = .ok (.iinc 6 1, 3) := by decide +kernel
theorem dJ2_indexOfSupplementary_4cfef_66 : decode cJ2_indexOfSupplementary_4cfef 66 = .ok (.goto (-38), 3) := by decide +kernel
theorem dJ2_indexOfSupplementary_4cfef_69 : decode cJ2_indexOfSupplementary_4cfef 69 = .ok (.iconst (-1), 1) := by decide +kernel
theorem dJ2_indexOfSupplementary_4cfef_70 : decode cJ2_indexOfSupplementary_4cfef 70 = .ok (.ireturn, 1) := by decide +kernel
theorem dJ2_charAt_3b067_0 : decode cJ2_charAt_3b067 0 = .ok (.iload_n 1, 1) := by decide +kernel
theorem dJ2_charAt_3b067_1 : decode cJ2_charAt_3b067 1 = .ok (.aload_n 0, 1) := by decide +kernel
theorem dJ2_charAt_3b067_2 : decode cJ2_charAt_3b067 2 = .ok (.invokestatic 67, 3) := by decide +kernel
theorem dJ2_charAt_3b067_5 : decode cJ2_charAt_3b067 5 = .ok (.aload_n 0, 1) := by decide +kernel
theorem dJ2_charAt_3b067_6 : decode cJ2_charAt_3b067 6 = .ok (.iload_n 1, 1) := by decide +kernel
theorem dJ2_charAt_3b067_7 : decode cJ2_charAt_3b067 7 = .ok (.invokestatic 71, 3) := by decide +kernel
theorem dJ2_charAt_3b067_10 : decode cJ2_charAt_3b067 10 = .ok (.ireturn, 1) := by decide +kernel
theorem dJ2_checkIndex_2214a_0 : decode cJ2_checkIndex_2214a 0 = .ok (.iload_n 0, 1) := by decide +kernel
theorem dJ2_checkIndex_2214a_1 : decode cJ2_checkIndex_2214a 1 = .ok (.aload_n 1, 1) := by decide +kernel
theorem dJ2_checkIndex_2214a_2 : decode cJ2_checkIndex_2214a 2 = .ok (.invokestatic 48, 3) := by decide +kernel
theorem dJ2_checkIndex_2214a_5 : decode cJ2_checkIndex_2214a 5 = .ok (.invokestatic 414, 3) := by decide +kernel
theorem dJ2_checkIndex_2214a_8 : decode cJ2_checkIndex_2214a 8 = .ok (.return_, 1) := by decide +kernel
theorem dJ2_checkBoundsBeginEnd_d044e_0 : decode cJ2_checkBoundsBeginEnd_d044e 0 = .ok (.iload_n 0, 1) := by decide +kernel
theorem dJ2_checkBoundsBeginEnd_d044e_1 : decode cJ2_checkBoundsBeginEnd_d044e 1 = .ok (.iload_n 1, 1) := by decide +kernel
theorem dJ2_checkBoundsBeginEnd_d044e_2 : decode cJ2_checkBoundsBeginEnd_d044e 2 = .ok (.aload_n 2, 1) := by decide +kernel
theorem dJ2_checkBoundsBeginEnd_d044e_3 : decode cJ2_checkBoundsBeginEnd_d044e 3 = .ok (.invokestatic 48, 3) := by decide +kernel
theorem dJ2_checkBoundsBeginEnd_d044e_6 : decode cJ2_checkBoundsBeginEnd_d044e 6 = .ok (.invokestatic 241, 3) := by decide +kernel
theorem dJ2_checkBoundsBeginEnd_d044e_9 : decode cJ2_checkBoundsBeginEnd_d044e 9 = .ok (.return_, 1) := by decide +kernel
theorem dJxa1e45_init_da8c8_0 : decode cJxa1e45_init_da8c8 0 = .ok (.aload_n 0, 1) := by decide +kernel
theorem dJxa1e45_init_da8c8_1 : decode cJxa1e45_init_da8c8 1 = .ok (.invokespecial 1, 3) := by decide +kernel
theorem dJxa1e45_init_da8c8_4 : decode cJxa1e45_init_da8c8 4 = .ok (.return_, 1) := by decide +kernel
theorem dJxc12de_init_da8c8_0 : decode cJxc12de_init_da8c8 0 = .ok (.aload_n 0, 1) := by decide +kernel
theorem dJxc12de_init_da8c8_1 : decode cJxc12de_init_da8c8 1 = .ok (.invokespecial 1, 3) := by decide +kernel
theorem dJxc12de_init_da8c8_4 : decode cJxc12de_init_da8c8 4 = .ok (.aload_n 0, 1) := by decide +kernel
theorem dJxc12de_init_da8c8_5 : decode cJxc12de_init_da8c8 5 = .ok (.iconst 0, 1) := by decide +kernel
theorem dJxc12de_init_da8c8_6 : decode cJxc12de_init_da8c8 6 = .ok (.putfield 7, 3) := by decide +kernel
theorem dJxc12de_init_da8c8_9 : decode cJxc12de_init_da8c8 9 = .ok (.return_, 1) := by decide +kernel
theorem dJx4a65c_init_da8c8_0 : decode cJx4a65c_init_da8c8 0 = .ok (.aload_n 0, 1) := by decide +kernel
theorem dJx4a65c_init_da8c8_1 : decode cJx4a65c_init_da8c8 1 = .ok (.invokespecial 1, 3) := by decide +kernel
theorem dJx4a65c_init_da8c8_4 : decode cJx4a65c_init_da8c8 4 = .ok (.aload_n 0, 1) := by decide +kernel
theorem dJx4a65c_init_da8c8_5 : decode cJx4a65c_init_da8c8 5 = .ok (.getstatic 39, 3) := by decide +kernel
theorem dJx4a65c_init_da8c8_8 : decode cJx4a65c_init_da8c8 8 = .ok (.putfield 9, 3) := by decide +kernel
theorem dJx4a65c_init_da8c8_11 : decode cJx4a65c_init_da8c8 11 = .ok (.return_, 1) := by decide +kernel
theorem dJx4a65c_grow_92f84_0 : decode cJx4a65c_grow_92f84 0 = .ok (.aload_n 0, 1) := by decide +kernel
theorem dJx4a65c_grow_92f84_1 : decode cJx4a65c_grow_92f84 1 = .ok (.getfield 9, 3) := by decide +kernel
theorem dJx4a65c_grow_92f84_4 : decode cJx4a65c_grow_92f84 4 = .ok (.arraylength, 1) := by decide +kernel
theorem dJx4a65c_grow_92f84_5 : decode cJx4a65c_grow_92f84 5 = .ok (.istore_n 2, 1) := by decide +kernel
theorem dJx4a65c_grow_92f84_6 : decode cJx4a65c_grow_92f84 6 = .ok (.iload_n 2, 1) := by decide +kernel
theorem dJx4a65c_grow_92f84_7 : decode cJx4a65c_grow_92f84 7 = .ok (.ifCond .gt 13, 3) := by decide +kernel
theorem dJx4a65c_grow_92f84_10 : decode cJx4a65c_grow_92f84 10 = .ok (.aload_n 0, 1) := by decide +kernel
theorem dJx4a65c_grow_92f84_11 : decode cJx4a65c_grow_92f84 11 = .ok (.getfield 9, 3) := by decide +kernel
theorem dJx4a65c_grow_92f84_14 : decode cJx4a65c_grow_92f84 14 = .ok (.getstatic 39, 3) := by decide +kernel
theorem dJx4a65c_grow_92f84_17 : decode cJx4a65c_grow_92f84 17 = .ok (.if_acmp .eq 28, 3) := by decide +kernel
theorem dJx4a65c_grow_92f84_20 : decode cJx4a65c_grow_92f84 20 = .ok (.iload_n 2, 1) := by decide +kernel
theorem dJx4a65c_grow_92f84_21 : decode cJx4a65c_grow_92f84 21 = .ok (.iload_n 1, 1) := by decide +kernel
theorem dJx4a65c_grow_92f84_22 : decode cJx4a65c_grow_92f84 22 = .ok (.iload_n 2, 1) := by decide +kernel
theorem dJx4a65c_grow_92f84_23 : decode cJx4a65c_grow_92f84 23 = .ok (.isub, 1) := by decide +kernel
theorem dJx4a65c_grow_92f84_24 : decode cJx4a65c_grow_92f84 24 = .ok (.iload_n 2, 1) := by decide +kernel
theorem dJx4a65c_grow_92f84_25 : decode cJx4a65c_grow_92f84 25 = .ok (.iconst 1, 1) := by decide +kernel
theorem dJx4a65c_grow_92f84_26 : decode cJx4a65c_grow_92f84 26 = .ok (.ishr, 1) := by decide +kernel
theorem dJx4a65c_grow_92f84_27 : decode cJx4a65c_grow_92f84 27 = .ok (.invokestatic 73, 3) := by decide +kernel
theorem dJx4a65c_grow_92f84_30 : decode cJx4a65c_grow_92f84 30 = .ok (.istore_n 3, 1) := by decide +kernel
theorem dJx4a65c_grow_92f84_31 : decode cJx4a65c_grow_92f84 31 = .ok (.aload_n 0, 1) := by decide +kernel
theorem dJx4a65c_grow_92f84_32 : decode cJx4a65c_grow_92f84 32 = .ok (.aload_n 0, 1) := by decide +kernel
theorem dJx4a65c_grow_92f84_33 : decode cJx4a65c_grow_92f84 33 = .ok (.getfield 9, 3) := by decide +kernel
theorem dJx4a65c_grow_92f84_36 : decode cJx4a65c_grow_92f84 36 = .ok (.iload_n 3, 1) := by decide +kernel
theorem dJx4a65c_grow_92f84_37 : decode cJx4a65c_grow_92f84 37 = .ok (.invokestatic 66, 3) := by decide +kernel
theorem dJx4a65c_grow_92f84_40 : decode cJx4a65c_grow_92f84 40 = .ok (.dup_x1, 1) := by decide +kernel
theorem dJx4a65c_grow_92f84_41 : decode cJx4a65c_grow_92f84 41 = .ok (.putfield 9, 3) := by decide +kernel
theorem dJx4a65c_grow_92f84_44 : decode cJx4a65c_grow_92f84 44 = .ok (.areturn, 1) := by decide +kernel
theorem dJx4a65c_grow_92f84_45 : decode cJx4a65c_grow_92f84 45 = .ok (.aload_n 0, 1) := by decide +kernel
theorem dJx4a65c_grow_92f84_46 : decode cJx4a65c_grow_92f84 46 = .ok (.bipush 10, 2) := by decide +kernel
theorem dJx4a65c_grow_92f84_48 : decode cJx4a65c_grow_92f84 48 = .ok (.iload_n 1, 1) := by decide +kernel
theorem dJx4a65c_grow_92f84_49 : decode cJx4a65c_grow_92f84 49 = .ok (.invokestatic 79, 3) := by decide +kernel
theorem dJx4a65c_grow_92f84_52 : decode cJx4a65c_grow_92f84 52 = .ok (.anewarray 7, 3) := by decide +kernel
theorem dJx4a65c_grow_92f84_55 : decode cJx4a65c_grow_92f84 55 = .ok (.dup_x1, 1) := by decide +kernel
theorem dJx4a65c_grow_92f84_56 : decode cJx4a65c_grow_92f84 56 = .ok (.putfield 9, 3) := by decide +kernel
theorem dJx4a65c_grow_92f84_59 : decode cJx4a65c_grow_92f84 59 = .ok (.areturn, 1) := by decide +kernel
theorem dJx4a65c_grow_d5877_0 : decode cJx4a65c_grow_d5877 0 = .ok (.aload_n 0, 1) := by decide +kernel
theorem dJx4a65c_grow_d5877_1 : decode cJx4a65c_grow_d5877 1 = .ok (.aload_n 0, 1) := by decide +kernel
theorem dJx4a65c_grow_d5877_2 : decode cJx4a65c_grow_d5877 2 = .ok (.getfield 48, 3) := by decide +kernel
theorem dJx4a65c_grow_d5877_5 : decode cJx4a65c_grow_d5877 5 = .ok (.iconst 1, 1) := by decide +kernel
theorem dJx4a65c_grow_d5877_6 : decode cJx4a65c_grow_d5877 6 = .ok (.iadd, 1) := by decide +kernel
theorem dJx4a65c_grow_d5877_7 : decode cJx4a65c_grow_d5877 7 = .ok (.invokevirtual 69, 3) := by decide +kernel
theorem dJx4a65c_grow_d5877_10 : decode cJx4a65c_grow_d5877 10 = .ok (.areturn, 1) := by decide +kernel
theorem dJx4a65c_size_8abf5_0 : decode cJx4a65c_size_8abf5 0 = .ok (.aload_n 0, 1) := by decide +kernel
theorem dJx4a65c_size_8abf5_1 : decode cJx4a65c_size_8abf5 1 = .ok (.getfield 48, 3) := by decide +kernel
theorem dJx4a65c_size_8abf5_4 : decode cJx4a65c_size_8abf5 4 = .ok (.ireturn, 1) := by decide +kernel
theorem dJx4a65c_elementData_915e3_0 : decode cJx4a65c_elementData_915e3 0 = .ok (.aload_n 0, 1) := by decide +kernel
theorem dJx4a65c_elementData_915e3_1 : decode cJx4a65c_elementData_915e3 1 = .ok (.getfield 9, 3) := by decide +kernel
theorem dJx4a65c_elementData_915e3_4 : decode cJx4a65c_elementData_915e3 4 = .ok (.iload_n 1, 1) := by decide +kernel
theorem dJx4a65c_elementData_915e3_5 : decode cJx4a65c_elementData_915e3 5 = .ok (.aaload, 1) := by decide +kernel
theorem dJx4a65c_elementData_915e3_6 : decode cJx4a65c_elementData_915e3 6 = .ok (.areturn, 1) := by decide +kernel
theorem dJx4a65c_get_915e3_0 : decode cJx4a65c_get_915e3 0 = .ok (.iload_n 1, 1) := by decide +kernel
theorem dJx4a65c_get_915e3_1 : decode cJx4a65c_get_915e3 1 = .ok (.aload_n 0, 1) := by decide +kernel
theorem dJx4a65c_get_915e3_2 : decode cJx4a65c_get_915e3 2 = .ok (.getfield 48, 3) := by decide +kernel
theorem dJx4a65c_get_915e3_5 : decode cJx4a65c_get_915e3 5 = .ok (.invokestatic 118, 3) := by decide +kernel
theorem dJx4a65c_get_915e3_8 : decode cJx4a65c_get_915e3 8 = .ok (.pop, 1) := by decide +kernel
theorem dJx4a65c_get_915e3_9 : decode cJx4a65c_get_915e3 9 = .ok (.aload_n 0, 1) := by decide +kernel
theorem dJx4a65c_get_915e3_10 : decode cJx4a65c_get_915e3 10 = .ok (.iload_n 1, 1) := by decide +kernel
theorem dJx4a65c_get_915e3_11 : decode cJx4a65c_get_915e3 11 = .ok (.invokevirtual 123, 3) := by decide +kernel
theorem dJx4a65c_get_915e3_14 : decode cJx4a65c_get_915e3 14 = .ok (.areturn, 1) := by decide +kernel
theorem dJx4a65c_add_72be8_0 : decode cJx4a65c_add_72be8 0 = .ok (.iload_n 3, 1) := by decide +kernel
theorem dJx4a65c_add_72be8_1 : decode cJx4a65c_add_72be8 1 = .ok (.aload_n 2, 1) := by decide +kernel
theorem dJx4a65c_add_72be8_2 : decode cJx4a65c_add_72be8 2 = .ok (.arraylength, 1) := by decide +kernel
theorem dJx4a65c_add_72be8_3 : decode cJx4a65c_add_72be8 3 = .ok (.if_icmp .ne 8, 3) := by decide +kernel
theorem dJx4a65c_add_72be8_6 : decode cJx4a65c_add_72be8 6 = .ok (.aload_n 0, 1) := by decide +kernel
theorem dJx4a65c_add_72be8_7 : decode cJx4a65c_add_72be8 7 = .ok (.invokevirtual 129, 3) := by decide +kernel
theorem dJx4a65c_add_72be8_10 : decode cJx4a65c_add_72be8 10 = .ok (.astore_n 2, 1) := by decide +kernel
theorem dJx4a65c_add_72be8_11 : decode cJx4a65c_add_72be8 11 = .ok (.aload_n 2, 1) := by decide +kernel
theorem dJx4a65c_add_72be8_12 : decode cJx4a65c_add_72be8 12 = .ok (.iload_n 3, 1) := by decide +kernel
theorem dJx4a65c_add_72be8_13 : decode cJx4a65c_add_72be8 13 = .ok (.aload_n 1, 1) := by decide +kernel
theorem dJx4a65c_add_72be8_14 : decode cJx4a65c_add_72be8 14 = .ok (.aastore, 1) := by decide +kernel
theorem dJx4a65c_add_72be8_15 : decode cJx4a65c_add_72be8 15 = .ok (.aload_n 0, 1) := by decide +kernel
theorem dJx4a65c_add_72be8_16 : decode cJx4a65c_add_72be8 16 = .ok (.iload_n 3, 1) := by decide +kernel
theorem dJx4a65c_add_72be8_17 : decode cJx4a65c_add_72be8 17 = .ok (.iconst 1, 1) := by decide +kernel
theorem dJx4a65c_add_72be8_18 : decode cJx4a65c_add_72be8 18 = .ok (.iadd, 1) := by decide +kernel
theorem dJx4a65c_add_72be8_19 : decode cJx4a65c_add_72be8 19 = .ok (.putfield 48, 3) := by decide +kernel
theorem dJx4a65c_add_72be8_22 : decode cJx4a65c_add_72be8 22 = .ok (.return_, 1) := by decide +kernel
theorem dJx4a65c_add_9ea2d_0 : decode cJx4a65c_add_9ea2d 0 = .ok (.aload_n 0, 1) := by decide +kernel
theorem dJx4a65c_add_9ea2d_1 : decode cJx4a65c_add_9ea2d 1 = .ok (.dup, 1) := by decide +kernel
theorem dJx4a65c_add_9ea2d_2 : decode cJx4a65c_add_9ea2d 2 = .ok (.getfield 63, 3) := by decide +kernel
theorem dJx4a65c_add_9ea2d_5 : decode cJx4a65c_add_9ea2d 5 = .ok (.iconst 1, 1) := by decide +kernel
theorem dJx4a65c_add_9ea2d_6 : decode cJx4a65c_add_9ea2d 6 = .ok (.iadd, 1) := by decide +kernel
theorem dJx4a65c_add_9ea2d_7 : decode cJx4a65c_add_9ea2d 7 = .ok (.putfield 63, 3) := by decide +kernel
theorem dJx4a65c_add_9ea2d_10 : decode cJx4a65c_add_9ea2d 10 = .ok (.aload_n 0, 1) := by decide +kernel
theorem dJx4a65c_add_9ea2d_11 : decode cJx4a65c_add_9ea2d 11 = .ok (.aload_n 1, 1) := by decide +kernel
theorem dJx4a65c_add_9ea2d_12 : decode cJx4a65c_add_9ea2d 12 = .ok (.aload_n 0, 1) := by decide +kernel
theorem dJx4a65c_add_9ea2d_13 : decode cJx4a65c_add_9ea2d 13 = .ok (.getfield 9, 3) := by decide +kernel
theorem dJx4a65c_add_9ea2d_16 : decode cJx4a65c_add_9ea2d 16 = .ok (.aload_n 0, 1) := by decide +kernel
theorem dJx4a65c_add_9ea2d_17 : decode cJx4a65c_add_9ea2d 17 = .ok (.getfield 48, 3) := by decide +kernel
theorem dJx4a65c_add_9ea2d_20 : decode cJx4a65c_add_9ea2d 20 = .ok (.invokevirtual 131, 3) := by decide +kernel
theorem dJx4a65c_add_9ea2d_23 : decode cJx4a65c_add_9ea2d 23 = .ok (.iconst 1, 1) := by decide +kernel
theorem dJx4a65c_add_9ea2d_24 : decode cJx4a65c_add_9ea2d 24 = .ok (.ireturn, 1) := by decide +kernel
theorem dJ7_rangeCheck_23922_0 : decode cJ7_rangeCheck_23922 0 = .ok (.iload_n 1, 1) := by decide +kernel
theorem dJ7_rangeCheck_23922_1 : decode cJ7_rangeCheck_23922 1 = .ok (.iload_n 2, 1) := by decide +kernel
theorem dJ7_rangeCheck_23922_2 : decode cJ7_rangeCheck_23922 2 = .ok (.if_icmp .le 44, 3) := by decide +kernel
theorem dJ7_rangeCheck_23922_5 : decode cJ7_rangeCheck_23922 5 = .ok (.new 43, 3) := by decide +kernel
theorem dJ7_rangeCheck_23922_8 : decode cJ7_rangeCheck_23922 8 = .ok (.dup, 1) := by decide +kernel
theorem dJ7_rangeCheck_23922_9 : decode cJ7_rangeCheck_23922 9 = .ok (.new 45, 3) := by decide +kernel
theorem dJ7_rangeCheck_23922_12 : decode cJ7_rangeCheck_23922 12 = .ok (.dup, 1) := by decide +kernel
theorem dJ7_rangeCheck_23922_13 : decode cJ7_rangeCheck_23922 13 = .ok (.invokespecial 47, 3) := by decide +kernel
theorem dJ7_rangeCheck_23922_16 : decode cJ7_rangeCheck_23922 16 = .ok (.ldc 48, 2) := by decide +kernel
theorem dJ7_rangeCheck_23922_18 : decode cJ7_rangeCheck_23922 18 = .ok (.invokevirtual 50, 3) := by decide +kernel
theorem dJ7_rangeCheck_23922_21 : decode cJ7_rangeCheck_23922 21 = .ok (.iload_n 1, 1) := by decide +kernel
theorem dJ7_rangeCheck_23922_22 : decode cJ7_rangeCheck_23922 22 = .ok (.invokevirtual 54, 3) := by decide +kernel
theorem dJ7_rangeCheck_23922_25 : decode cJ7_rangeCheck_23922 25 = .ok (.ldc 57, 2) := by decide +kernel
theorem dJ7_rangeCheck_23922_27 : decode cJ7_rangeCheck_23922 27 = .ok (.invokevirtual 50, 3) := by decide +kernel
theorem dJ7_rangeCheck_23922_30 : decode cJ7_rangeCheck_23922 30 = .ok (.iload_n 2, 1) := by decide +kernel
theorem dJ7_rangeCheck_23922_31 : decode cJ7_rangeCheck_23922 31 = .ok (.invokevirtual 54, 3) := by decide +kernel
theorem dJ7_rangeCheck_23922_34 : decode cJ7_rangeCheck_23922 34 = .ok (.ldc 59, 2) := by decide +kernel
theorem dJ7_rangeCheck_23922_36 : decode cJ7_rangeCheck_23922 36 = .ok (.invokevirtual 50, 3) := by decide +kernel
theorem dJ7_rangeCheck_23922_39 : decode cJ7_rangeCheck_23922 39 = .ok (.invokevirtual 61, 3) := by decide +kernel
theorem dJ7_rangeCheck_23922_42 : decode cJ7_rangeCheck_23922 42 = .ok (.invokespecial 65, 3) := by decide +kernel
theorem dJ7_rangeCheck_23922_45 : decode cJ7_rangeCheck_23922 45 = .ok (.athrow, 1) := by decide +kernel
theorem dJ7_rangeCheck_23922_46 : decode cJ7_rangeCheck_23922 46 = .ok (.iload_n 1, 1) := by decide +kernel
theorem dJ7_rangeCheck_23922_47 : decode cJ7_rangeCheck_23922 47 = .ok (.ifCond .ge 12, 3) := by decide +kernel
theorem dJ7_rangeCheck_23922_50 : decode cJ7_rangeCheck_23922 50 = .ok (.new 68, 3) := by decide +kernel
theorem dJ7_rangeCheck_23922_53 : decode cJ7_rangeCheck_23922 53 = .ok (.dup, 1) := by decide +kernel
theorem dJ7_rangeCheck_23922_54 : decode cJ7_rangeCheck_23922 54 = .ok (.iload_n 1, 1) := by decide +kernel
theorem dJ7_rangeCheck_23922_55 : decode cJ7_rangeCheck_23922 55 = .ok (.invokespecial 70, 3) := by decide +kernel
theorem dJ7_rangeCheck_23922_58 : decode cJ7_rangeCheck_23922 58 = .ok (.athrow, 1) := by decide +kernel
theorem dJ7_rangeCheck_23922_59 : decode cJ7_rangeCheck_23922 59 = .ok (.iload_n 2, 1) := by decide +kernel
theorem dJ7_rangeCheck_23922_60 : decode cJ7_rangeCheck_23922 60 = .ok (.iload_n 0, 1) := by decide +kernel
theorem dJ7_rangeCheck_23922_61 : decode cJ7_rangeCheck_23922 61 = .ok (.if_icmp .le 12, 3) := by decide +kernel
theorem dJ7_rangeCheck_23922_64 : decode cJ7_rangeCheck_23922 64 = .ok (.new 68, 3) := by decide +kernel
theorem dJ7_rangeCheck_23922_67 : decode cJ7_rangeCheck_23922 67 = .ok (.dup, 1) := by decide +kernel
theorem dJ7_rangeCheck_23922_68 : decode cJ7_rangeCheck_23922 68 = .ok (.iload_n 2, 1) := by decide +kernel
theorem dJ7_rangeCheck_23922_69 : decode cJ7_rangeCheck_23922 69 = .ok (.invokespecial 70, 3) := by decide +kernel
theorem dJ7_rangeCheck_23922_72 : decode cJ7_rangeCheck_23922 72 = .ok (.athrow, 1) := by decide +kernel
theorem dJ7_rangeCheck_23922_73 : decode cJ7_rangeCheck_23922 73 = .ok (.return_, 1) := by decide +kernel
theorem dJ7_fill_53178_0 : decode cJ7_fill_53178 0 = .ok (.iconst 0, 1) := by decide +kernel
theorem dJ7_fill_53178_1 : decode cJ7_fill_53178 1 = .ok (.istore_n 2, 1) := by decide +kernel
theorem dJ7_fill_53178_2 : decode cJ7_fill_53178 2 = .ok (.aload_n 0, 1) := by decide +kernel
theorem dJ7_fill_53178_3 : decode cJ7_fill_53178 3 = .ok (.arraylength, 1) := by decide +kernel
theorem dJ7_fill_53178_4 : decode cJ7_fill_53178 4 = .ok (.istore_n 3, 1) := by decide +kernel
theorem dJ7_fill_53178_5 : decode cJ7_fill_53178 5 = .ok (.iload_n 2, 1) := by decide +kernel
theorem dJ7_fill_53178_6 : decode cJ7_fill_53178 6 = .ok (.iload_n 3, 1) := by decide +kernel
theorem dJ7_fill_53178_7 : decode cJ7_fill_53178 7 = .ok (.if_icmp .ge 13, 3) := by decide +kernel
theorem dJ7_fill_53178_10 : decode cJ7_fill_53178 10 = .ok (.aload_n 0, 1) := by decide +kernel
theorem dJ7_fill_53178_11 : decode cJ7_fill_53178 11 = .ok (.iload_n 2, 1) := by decide +kernel
theorem dJ7_fill_53178_12 : decode cJ7_fill_53178 12 = .ok (.iload_n 1, 1) := by decide +kernel
theorem dJ7_fill_53178_13 : decode cJ7_fill_53178 13 = .ok (.iastore, 1) := by decide +kernel
theorem dJ7_fill_53178_14 : decode cJ7_fill_53178 14 = .ok (.iinc 2 1, 3) := by decide +kernel
theorem dJ7_fill_53178_17 : decode cJ7_fill_53178 17 = .ok (.goto (-12), 3) := by decide +kernel
theorem dJ7_fill_53178_20 : decode cJ7_fill_53178 20 = .ok (.return_, 1) := by decide +kernel
theorem dJ7_fill_fda19_0 : decode cJ7_fill_fda19 0 = .ok (.aload_n 0, 1) := by decide +kernel
theorem dJ7_fill_fda19_1 : decode cJ7_fill_fda19 1 = .ok (.arraylength, 1) := by decide +kernel
theorem dJ7_fill_fda19_2 : decode cJ7_fill_fda19 2 = .ok (.iload_n 1, 1) := by decide +kernel
theorem dJ7_fill_fda19_3 : decode cJ7_fill_fda19 3 = .ok (.iload_n 2, 1) := by decide +kernel
theorem dJ7_fill_fda19_4 : decode cJ7_fill_fda19 4 = .ok (.invokestatic 13, 3) := by decide +kernel
theorem dJ7_fill_fda19_7 : decode cJ7_fill_fda19 7 = .ok (.iload_n 1, 1) := by decide +kernel
theorem dJ7_fill_fda19_8 : decode cJ7_fill_fda19 8 = .ok (.istore 4, 2) := by decide +kernel
theorem dJ7_fill_fda19_10 : decode cJ7_fill_fda19 10 = .ok (.iload 4, 2) := by decide +kernel
theorem dJ7_fill_fda19_12 : decode cJ7_fill_fda19 12 = .ok (.iload_n 2, 1) := by decide +kernel
theorem dJ7_fill_fda19_13 : decode cJ7_fill_fda19 13 = .ok (.if_icmp .ge 14, 3) := by decide +kernel
theorem dJ7_fill_fda19_16 : decode cJ7_fill_fda19 16 = .ok (.aload_n 0, 1) := by decide +kernel
theorem dJ7_fill_fda19_17 : decode cJ7_fill_fda19 17 = .ok (.iload 4, 2) := by decide +kernel
theorem dJ7_fill_fda19_19 : decode cJ7_fill_fda19 19 = .ok (.iload_n 3, 1) := by decide +kernel
theorem dJ7_fill_fda19_20 : decode cJ7_fill_fda19 20 = .ok (.iastore, 1) := by decide +kernel
theorem dJ7_fill_fda19_21 : decode cJ7_fill_fda19 21 = .ok (.iinc 4 1, 3) := by decide +kernel
theorem dJ7_fill_fda19_24 : decode cJ7_fill_fda19 24 = .ok (.goto (-14), 3) := by decide +kernel
theorem dJ7_fill_fda19_27 : decode cJ7_fill_fda19 27 = .ok (.return_, 1) := by decide +kernel
theorem dJ7_copyOf_1904c_0 : decode cJ7_copyOf_1904c 0 = .ok (.aload_n 0, 1) := by decide +kernel
theorem dJ7_copyOf_1904c_1 : decode cJ7_copyOf_1904c 1 = .ok (.iload_n 1, 1) := by decide +kernel
theorem dJ7_copyOf_1904c_2 : decode cJ7_copyOf_1904c 2 = .ok (.aload_n 0, 1) := by decide +kernel
theorem dJ7_copyOf_1904c_3 : decode cJ7_copyOf_1904c 3 = .ok (.invokevirtual 86, 3) := by decide +kernel
theorem dJ7_copyOf_1904c_6 : decode cJ7_copyOf_1904c 6 = .ok (.invokestatic 300, 3) := by decide +kernel
theorem dJ7_copyOf_1904c_9 : decode cJ7_copyOf_1904c 9 = .ok (.areturn, 1) := by decide +kernel
theorem dJ7_copyOf_6403c_0 : decode cJ7_copyOf_6403c 0 = .ok (.aload_n 2, 1) := by decide +kernel
theorem dJ7_copyOf_6403c_1 : decode cJ7_copyOf_6403c 1 = .ok (.ldc 110, 2) := by decide +kernel
theorem dJ7_copyOf_6403c_3 : decode cJ7_copyOf_6403c 3 = .ok (.if_acmp .ne 10, 3) := by decide +kernel
theorem dJ7_copyOf_6403c_6 : decode cJ7_copyOf_6403c 6 = .ok (.iload_n 1, 1) := by decide +kernel
theorem dJ7_copyOf_6403c_7 : decode cJ7_copyOf_6403c 7 = .ok (.anewarray 2, 3) := by decide +kernel
theorem dJ7_copyOf_6403c_10 : decode cJ7_copyOf_6403c 10 = .ok (.goto 14, 3) := by decide +kernel
theorem dJ7_copyOf_6403c_13 : decode cJ7_copyOf_6403c 13 = .ok (.aload_n 2, 1) := by decide +kernel
theorem dJ7_copyOf_6403c_14 : decode cJ7_copyOf_6403c 14 = .ok (.invokevirtual 90, 3) := by decide +kernel
theorem dJ7_copyOf_6403c_17 : decode cJ7_copyOf_6403c 17 = .ok (.iload_n 1, 1) := by decide +kernel
theorem dJ7_copyOf_6403c_18 : decode cJ7_copyOf_6403c 18 = .ok (.invokestatic 95, 3) := by decide +kernel
theorem dJ7_copyOf_6403c_21 : decode cJ7_copyOf_6403c 21 = .ok (.checkcast 110, 3) := by decide +kernel
theorem dJ7_copyOf_6403c_24 : decode cJ7_copyOf_6403c 24 = .ok (.astore_n 3, 1) := by decide +kernel
theorem dJ7_copyOf_6403c_25 : decode cJ7_copyOf_6403c 25 = .ok (.aload_n 0, 1) := by decide +kernel
theorem dJ7_copyOf_6403c_26 : decode cJ7_copyOf_6403c 26 = .ok (.iconst 0, 1) := by decide +kernel
theorem dJ7_copyOf_6403c_27 : decode cJ7_copyOf_6403c 27 = .ok (.aload_n 3, 1) := by decide +kernel
theorem dJ7_copyOf_6403c_28 : decode cJ7_copyOf_6403c 28 = .ok (.iconst 0, 1) := by decide +kernel
theorem dJ7_copyOf_6403c_29 : decode cJ7_copyOf_6403c 29 = .ok (.aload_n 0, 1) := by decide +kernel
theorem dJ7_copyOf_6403c_30 : decode cJ7_copyOf_6403c 30 = .ok (.arraylength, 1) := by decide +kernel
theorem dJ7_copyOf_6403c_31 : decode cJ7_copyOf_6403c 31 = .ok (.iload_n 1, 1) := by decide +kernel
theorem dJ7_copyOf_6403c_32 : decode cJ7_copyOf_6403c 32 = .ok (.invokestatic 304, 3) := by decide +kernel
theorem dJ7_copyOf_6403c_35 : decode cJ7_copyOf_6403c 35 = .ok (.invokestatic 150, 3) := by decide +kernel
theorem dJ7_copyOf_6403c_38 : decode cJ7_copyOf_6403c 38 = .ok (.aload_n 3, 1) := by decide +kernel
theorem dJ7_copyOf_6403c_39 : decode cJ7_copyOf_6403c 39 = .ok (.areturn, 1) := by decide +kernel
theorem dJ7_copyOf_59c91_0 : decode cJ7_copyOf_59c91 0 = .ok (.iload_n 1, 1) := by decide +kernel
theorem dJ7_copyOf_59c91_1 : decode cJ7_copyOf_59c91 1 = .ok (.aload_n 0, 1) := by decide +kernel
theorem dJ7_copyOf_59c91_2 : decode cJ7_copyOf_59c91 2 = .ok (.arraylength, 1) := by decide +kernel
theorem dJ7_copyOf_59c91_3 : decode cJ7_copyOf_59c91 3 = .ok (.if_icmp .ne 11, 3) := by decide +kernel
theorem dJ7_copyOf_59c91_6 : decode cJ7_copyOf_59c91 6 = .ok (.aload_n 0, 1) := by decide +kernel
theorem dJ7_copyOf_59c91_7 : decode cJ7_copyOf_59c91 7 = .ok (.invokevirtual 316, 3) := by decide +kernel
theorem dJ7_copyOf_59c91_10 : decode cJ7_copyOf_59c91 10 = .ok (.checkcast 317, 3) := by decide +kernel
theorem dJ7_copyOf_59c91_13 : decode cJ7_copyOf_59c91 13 = .ok (.areturn, 1) := by decide +kernel
theorem dJ7_copyOf_59c91_14 : decode cJ7_copyOf_59c91 14 = .ok (.iload_n 1, 1) := by decide +kernel
theorem dJ7_copyOf_59c91_15 : decode cJ7_copyOf_59c91 15 = .ok (.newarray .int, 2) := by decide +kernel
theorem dJ7_copyOf_59c91_17 : decode cJ7_copyOf_59c91 17 = .ok (.astore_n 2, 1) := by decide +kernel
theorem dJ7_copyOf_59c91_18 : decode cJ7_copyOf_59c91 18 = .ok (.aload_n 0, 1) := by decide +kernel
theorem dJ7_copyOf_59c91_19 : decode cJ7_copyOf_59c91 19 = .ok (.iconst 0, 1) := by decide +kernel
theorem dJ7_copyOf_59c91_20 : decode cJ7_copyOf_59c91 20 = .ok (.aload_n 2, 1) := by decide +kernel
theorem dJ7_copyOf_59c91_21 : decode cJ7_copyOf_59c91 21 = .ok (.iconst 0, 1) := by decide +kernel
theorem dJ7_copyOf_59c91_22 : decode cJ7_copyOf_59c91 22 = .ok (.aload_n 0, 1) := by decide +kernel
theorem dJ7_copyOf_59c91_23 : decode cJ7_copyOf_59c91 23 = .ok (.arraylength, 1) := by decide +kernel
theorem dJ7_copyOf_59c91_24 : decode cJ7_copyOf_59c91 24 = .ok (.iload_n 1, 1) := by decide +kernel
theorem dJ7_copyOf_59c91_25 : decode cJ7_copyOf_59c91 25 = .ok (.invokestatic 304, 3) := by decide +kernel
theorem dJ7_copyOf_59c91_28 : decode cJ7_copyOf_59c91 28 = .ok (.invokestatic 150, 3) := by decide +kernel
theorem dJ7_copyOf_59c91_31 : decode cJ7_copyOf_59c91 31 = .ok (.aload_n 2, 1) := by decide +kernel
theorem dJ7_copyOf_59c91_32 : decode cJ7_copyOf_59c91 32 = .ok (.areturn, 1) := by decide +kernel
theorem dJ15_checkIndex_7cf53_0 : decode cJ15_checkIndex_7cf53 0 = .ok (.iload_n 0, 1) := by decide +kernel
theorem dJ15_checkIndex_7cf53_1 : decode cJ15_checkIndex_7cf53 1 = .ok (.iload_n 1, 1) := by decide +kernel
theorem dJ15_checkIndex_7cf53_2 : decode cJ15_checkIndex_7cf53 2 = .ok (.aconst_null, 1) := by decide +kernel
theorem dJ15_checkIndex_7cf53_3 : decode cJ15_checkIndex_7cf53 3 = .ok (.invokestatic 105, 3) := by decide +kernel
theorem dJ15_checkIndex_7cf53_6 : decode cJ15_checkIndex_7cf53 6 = .ok (.ireturn, 1) := by decide +kernel
theorem dJ8_newLength_cabcc_0 : decode cJ8_newLength_cabcc 0 = .ok (.iload_n 0, 1) := by decide +kernel
theorem dJ8_newLength_cabcc_1 : decode cJ8_newLength_cabcc 1 = .ok (.iload_n 1, 1) := by decide +kernel
theorem dJ8_newLength_cabcc_2 : decode cJ8_newLength_cabcc 2 = .ok (.iload_n 2, 1) := by decide +kernel
theorem dJ8_newLength_cabcc_3 : decode cJ8_newLength_cabcc 3 = .ok (.invokestatic 194, 3) := by decide +kernel
theorem dJ8_newLength_cabcc_6 : decode cJ8_newLength_cabcc 6 = .ok (.iadd, 1) := by decide +kernel
theorem dJ8_newLength_cabcc_7 : decode cJ8_newLength_cabcc 7 = .ok (.istore_n 3, 1) := by decide +kernel
theorem dJ8_newLength_cabcc_8 : decode cJ8_newLength_cabcc 8 = .ok (.iconst 0, 1) := by decide +kernel
theorem dJ8_newLength_cabcc_9 : decode cJ8_newLength_cabcc 9 = .ok (.iload_n 3, 1) := by decide +kernel
theorem dJ8_newLength_cabcc_10 : decode cJ8_newLength_cabcc 10 = .ok (.if_icmp .ge 11, 3) := by decide +kernel
theorem dJ8_newLength_cabcc_13 : decode cJ8_newLength_cabcc 13 = .ok (.iload_n 3, 1) := by decide +kernel
theorem dJ8_newLength_cabcc_14 : decode cJ8_newLength_cabcc 14 = .ok (.ldc 200, 2) := by decide +kernel
theorem dJ8_newLength_cabcc_16 : decode cJ8_newLength_cabcc 16 = .ok (.if_icmp .gt 5, 3) := by decide +kernel
theorem dJ8_newLength_cabcc_19 : decode cJ8_newLength_cabcc 19 = .ok (.iload_n 3, 1) := by decide +kernel
theorem dJ8_newLength_cabcc_20 : decode cJ8_newLength_cabcc 20 = .ok (.ireturn, 1) := by decide +kernel
theorem dJ8_newLength_cabcc_21 : decode cJ8_newLength_cabcc 21 = .ok (.iload_n 0, 1) := by decide +kernel
theorem dJ8_newLength_cabcc_22 : decode cJ8_newLength_cabcc 22 = .ok (.iload_n 1, 1) := by decide +kernel
theorem dJ8_newLength_cabcc_23 : decode cJ8_newLength_cabcc 23 = .ok (.invokestatic 201, 3) := by decide +kernel
theorem dJ8_newLength_cabcc_26 : decode cJ8_newLength_cabcc 26 = .ok (.ireturn, 1) := by decide +kernel
theorem dJ8_hugeLength_7cf53_0 : decode cJ8_hugeLength_7cf53 0 = .ok (.iload_n 0, 1) := by decide +kernel
theorem dJ8_hugeLength_7cf53_1 : decode cJ8_hugeLength_7cf53 1 = .ok (.iload_n 1, 1) := by decide +kernel
theorem dJ8_hugeLength_7cf53_2 : decode cJ8_hugeLength_7cf53 2 = .ok (.iadd, 1) := by decide +kernel
theorem dJ8_hugeLength_7cf53_3 : decode cJ8_hugeLength_7cf53 3 = .ok (.istore_n 2, 1) := by decide +kernel
theorem dJ8_hugeLength_7cf53_4 : decode cJ8_hugeLength_7cf53 4 = .ok (.iload_n 2, 1) := by decide +kernel
theorem dJ8_hugeLength_7cf53_5 : decode cJ8_hugeLength_7cf53 5 = .ok (.ifCond .ge 44, 3) := by decide +kernel
theorem dJ8_hugeLength_7cf53_8 : decode cJ8_hugeLength_7cf53 8 = .ok (.new 204, 3) := by decide +kernel
theorem dJ8_hugeLength_7cf53_11 : decode cJ8_hugeLength_7cf53 11 = .ok (.dup, 1) := by decide +kernel
theorem dJ8_hugeLength_7cf53_12 : decode cJ8_hugeLength_7cf53 12 = .ok (.new 89, 3) := by decide +kernel
theorem dJ8_hugeLength_7cf53_15 : decode cJ8_hugeLength_7cf53 15 = .ok (.dup, 1) := by decide +kernel
theorem dJ8_hugeLength_7cf53_16 : decode cJ8_hugeLength_7cf53 16 = .ok (.invokespecial 91, 3) := by decide +kernel
theorem dJ8_hugeLength_7cf53_19 : decode cJ8_hugeLength_7cf53 19 = .ok (.ldc 206, 2) := by decide +kernel
theorem dJ8_hugeLength_7cf53_21 : decode cJ8_hugeLength_7cf53 21 = .ok (.invokevirtual 94, 3) := by decide +kernel
theorem dJ8_hugeLength_7cf53_24 : decode cJ8_hugeLength_7cf53 24 = .ok (.iload_n 0, 1) := by decide +kernel
theorem dJ8_hugeLength_7cf53_25 : decode cJ8_hugeLength_7cf53 25 = .ok (.invokevirtual 98, 3) := by decide +kernel
theorem dJ8_hugeLength_7cf53_28 : decode cJ8_hugeLength_7cf53 28 = .ok (.ldc 208, 2) := by decide +kernel
theorem dJ8_hugeLength_7cf53_30 : decode cJ8_hugeLength_7cf53 30 = .ok (.invokevirtual 94, 3) := by decide +kernel
theorem dJ8_hugeLength_7cf53_33 : decode cJ8_hugeLength_7cf53 33 = .ok (.iload_n 1, 1) := by decide +kernel
theorem dJ8_hugeLength_7cf53_34 : decode cJ8_hugeLength_7cf53 34 = .ok (.invokevirtual 98, 3) := by decide +kernel
theorem dJ8_hugeLength_7cf53_37 : decode cJ8_hugeLength_7cf53 37 = .ok (.ldc 210, 2) := by decide +kernel
theorem dJ8_hugeLength_7cf53_39 : decode cJ8_hugeLength_7cf53 39 = .ok (.invokevirtual 94, 3) := by decide +kernel
theorem dJ8_hugeLength_7cf53_42 : decode cJ8_hugeLength_7cf53 42 = .ok (.invokevirtual 101, 3) := by decide +kernel
theorem dJ8_hugeLength_7cf53_45 : decode cJ8_hugeLength_7cf53 45 = .ok (.invokespecial 212, 3) := by decide +kernel
theorem dJ8_hugeLength_7cf53_48 : decode cJ8_hugeLength_7cf53 48 = .ok (.athrow, 1) := by decide +kernel
theorem dJ8_hugeLength_7cf53_49 : decode cJ8_hugeLength_7cf53 49 = .ok (.iload_n 2, 1) := by decide +kernel
theorem dJ8_hugeLength_7cf53_50 : decode cJ8_hugeLength_7cf53 50 = .ok (.ldc 200, 2) := by decide +kernel
theorem dJ8_hugeLength_7cf53_52 : decode cJ8_hugeLength_7cf53 52 = .ok (.if_icmp .gt 6, 3) := by decide +kernel
theorem dJ8_hugeLength_7cf53_55 : decode cJ8_hugeLength_7cf53 55 = .ok (.ldc 200, 2) := by decide +kernel
theorem dJ8_hugeLength_7cf53_57 : decode cJ8_hugeLength_7cf53 57 = .ok (.ireturn, 1) := by decide +kernel
theorem dJ8_hugeLength_7cf53_58 : decode cJ8_hugeLength_7cf53 58 = .ok (.iload_n 2, 1) := by decide +kernel
theorem dJ8_hugeLength_7cf53_59 : decode cJ8_hugeLength_7cf53 59 = .ok (.ireturn, 1) := by decide +kernel
theorem dJ3_checkIndex_8e157_0 : decode cJ3_checkIndex_8e157 0 = .ok (.iload_n 0, 1) := by decide +kernel
theorem dJ3_checkIndex_8e157_1 : decode cJ3_checkIndex_8e157 1 = .ok (.ifCond .lt 8, 3) := by decide +kernel
theorem dJ3_checkIndex_8e157_4 : decode cJ3_checkIndex_8e157 4 = .ok (.iload_n 0, 1) := by decide +kernel
theorem dJ3_checkIndex_8e157_5 : decode cJ3_checkIndex_8e157 5 = .ok (.iload_n 1, 1) := by decide +kernel
theorem dJ3_checkIndex_8e157_6 : decode cJ3_checkIndex_8e157 6 = .ok (.if_icmp .lt 10, 3) := by decide +kernel
theorem dJ3_checkIndex_8e157_9 : decode cJ3_checkIndex_8e157 9 = .ok (.aload_n 2, 1) := by decide +kernel
theorem dJ3_checkIndex_8e157_10 : decode cJ3_checkIndex_8e157 10 = .ok (.iload_n 0, 1) := by decide +kernel
theorem dJ3_checkIndex_8e157_11 : decode cJ3_checkIndex_8e157 11 = .ok (.iload_n 1, 1) := by decide +kernel
theorem dJ3_checkIndex_8e157_12 : decode cJ3_checkIndex_8e157 12 = .ok (.invokestatic 95, 3) := by decide +kernel
theorem dJ3_checkIndex_8e157_15 : decode cJ3_checkIndex_8e157 15 = .ok (.athrow, 1) := by decide +kernel
theorem dJ3_checkIndex_8e157_16 : decode cJ3_checkIndex_8e157 16 = .ok (.iload_n 0, 1) := by decide +kernel
theorem dJ3_checkIndex_8e157_17 : decode cJ3_checkIndex_8e157 17 = .ok (.ireturn, 1) := by decide +kernel
theorem dJ3_checkFromToIndex_8c36e_0 : decode cJ3_checkFromToIndex_8c36e 0 = .ok (.iload_n 0, 1) := by decide +kernel
theorem dJ3_checkFromToIndex_8c36e_1 : decode cJ3_checkFromToIndex_8c36e 1 = .ok (.ifCond .lt 13, 3) := by decide +kernel
theorem dJ3_checkFromToIndex_8c36e_4 : decode cJ3_checkFromToIndex_8c36e 4 = .ok (.iload_n 0, 1) := by decide +kernel
theorem dJ3_checkFromToIndex_8c36e_5 : decode cJ3_checkFromToIndex_8c36e 5 = .ok (.iload_n 1, 1) := by decide +kernel
theorem dJ3_checkFromToIndex_8c36e_6 : decode cJ3_checkFromToIndex_8c36e 6 = .ok (.if_icmp .gt 8, 3) := by decide +kernel
theorem dJ3_checkFromToIndex_8c36e_9 : decode cJ3_checkFromToIndex_8c36e 9 = .ok (.iload_n 1, 1) := by decide +kernel
theorem dJ3_checkFromToIndex_8c36e_10 : decode cJ3_checkFromToIndex_8c36e 10 = .ok (.iload_n 2, 1) := by decide +kernel
theorem dJ3_checkFromToIndex_8c36e_11 : decode cJ3_checkFromToIndex_8c36e 11 = .ok (.if_icmp .le 11, 3) := by decide +kernel
theorem dJ3_checkFromToIndex_8c36e_14 : decode cJ3_checkFromToIndex_8c36e 14 = .ok (.aload_n 3, 1) := by decide +kernel
theorem dJ3_checkFromToIndex_8c36e_15 : decode cJ3_checkFromToIndex_8c36e 15 = .ok (.iload_n 0, 1) := by decide +kernel
theorem dJ3_checkFromToIndex_8c36e_16 : decode cJ3_checkFromToIndex_8c36e 16 = .ok (.iload_n 1, 1) := by decide +kernel
theorem dJ3_checkFromToIndex_8c36e_17 : decode cJ3_checkFromToIndex_8c36e 17 = .ok (.iload_n 2, 1) := by decide +kernel
theorem dJ3_checkFromToIndex_8c36e_18 : decode cJ3_checkFromToIndex_8c36e 18 = .ok (.invokestatic 99, 3) := by decide +kernel
theorem dJ3_checkFromToIndex_8c36e_21 : decode cJ3_checkFromToIndex_8c36e 21 = .ok (.athrow, 1) := by decide +kernel
theorem dJ3_checkFromToIndex_8c36e_22 : decode cJ3_checkFromToIndex_8c36e 22 = .ok (.iload_n 0, 1) := by decide +kernel
theorem dJ3_checkFromToIndex_8c36e_23 : decode cJ3_checkFromToIndex_8c36e 23 = .ok (.ireturn, 1) := by decide +kernel
theorem dL_law_0 : decode cL_law 0 = .ok (.new 7, 3) := by decide +kernel
theorem dL_law_3 : decode cL_law 3 = .ok (.dup, 1) := by decide +kernel
theorem dL_law_4 : decode cL_law 4 = .ok (.invokespecial 9, 3) := by decide +kernel
theorem dL_law_7 : decode cL_law 7 = .ok (.astore_n 1, 1) := by decide +kernel
theorem dL_law_8 : decode cL_law 8 = .ok (.new 10, 3) := by decide +kernel
theorem dL_law_11 : decode cL_law 11 = .ok (.dup, 1) := by decide +kernel
theorem dL_law_12 : decode cL_law 12 = .ok (.invokespecial 12, 3) := by decide +kernel
theorem dL_law_15 : decode cL_law 15 = .ok (.astore_n 2, 1) := by decide +kernel
theorem dL_law_16 : decode cL_law 16 = .ok (.iconst 0, 1) := by decide +kernel
theorem dL_law_17 : decode cL_law 17 = .ok (.istore_n 3, 1) := by decide +kernel
theorem dL_law_18 : decode cL_law 18 = .ok (.iload_n 3, 1) := by decide +kernel
theorem dL_law_19 : decode cL_law 19 = .ok (.aload_n 0, 1) := by decide +kernel
theorem dL_law_20 : decode cL_law 20 = .ok (.arraylength, 1) := by decide +kernel
theorem dL_law_21 : decode cL_law 21 = .ok (.bipush 7, 2) := by decide +kernel
theorem dL_law_23 : decode cL_law 23 = .ok (.isub, 1) := by decide +kernel
theorem dL_law_24 : decode cL_law 24 = .ok (.if_icmp .gt 1551, 3) := by decide +kernel
theorem dL_law_27 : decode cL_law 27 = .ok (.aload_n 0, 1) := by decide +kernel
theorem dL_law_28 : decode cL_law 28 = .ok (.iload_n 3, 1) := by decide +kernel
theorem dL_law_29 : decode cL_law 29 = .ok (.iaload, 1) := by decide +kernel
theorem dL_law_30 : decode cL_law 30 = .ok (.bipush 63, 2) := by decide +kernel
theorem dL_law_32 : decode cL_law 32 = .ok (.iand, 1) := by decide +kernel
theorem dL_law_33 : decode cL_law 33 = .ok (.tableswitch 1536 0 38 #[171, 234, 257, 270, 283, 316, 359, 402, 455, 498, 521, 544, 587, 610, 653, 696, 729, 752, 785, 864, 887, 930, 973, 996, 1039, 1072, 1115, 1138, 1171, 1194, 1269, 1292, 1325, 1358, 1381, 1414, 1437, 1470, 1503], 171) := by decide +kernel
theorem dL_law_204 : decode cL_law 204 = .ok (.aload_n 1, 1) := by decide +kernel
theorem dL_law_205 : decode cL_law 205 = .ok (.aload_n 0, 1) := by decide +kernel
theorem dL_law_206 : decode cL_law 206 = .ok (.iload_n 3, 1) := by decide +kernel
theorem dL_law_207 : decode cL_law 207 = .ok (.iconst 1, 1) := by decide +kernel
theorem dL_law_208 : decode cL_law 208 = .ok (.iadd, 1) := by decide +kernel
theorem dL_law_209 : decode cL_law 209 = .ok (.iaload, 1) := by decide +kernel
theorem dL_law_210 : decode cL_law 210 = .ok (.aload_n 0, 1) := by decide +kernel
theorem dL_law_211 : decode cL_law 211 = .ok (.iload_n 3, 1) := by decide +kernel
theorem dL_law_212 : decode cL_law 212 = .ok (.iconst 2, 1) := by decide +kernel
theorem dL_law_213 : decode cL_law 213 = .ok (.iadd, 1) := by decide +kernel
theorem dL_law_214 : decode cL_law 214 = .ok (.iaload, 1) := by decide +kernel
theorem dL_law_215 : decode cL_law 215 = .ok (.aload_n 0, 1) := by decide +kernel
theorem dL_law_216 : decode cL_law 216 = .ok (.iload_n 3, 1) := by decide +kernel
theorem dL_law_217 : decode cL_law 217 = .ok (.iconst 3, 1) := by decide +kernel
theorem dL_law_218 : decode cL_law 218 = .ok (.iadd, 1) := by decide +kernel
theorem dL_law_219 : decode cL_law 219 = .ok (.iaload, 1) := by decide +kernel
theorem dL_law_220 : decode cL_law 220 = .ok (.aload_n 0, 1) := by decide +kernel
theorem dL_law_221 : decode cL_law 221 = .ok (.iload_n 3, 1) := by decide +kernel
theorem dL_law_222 : decode cL_law 222 = .ok (.iconst 4, 1) := by decide +kernel
theorem dL_law_223 : decode cL_law 223 = .ok (.iadd, 1) := by decide +kernel
theorem dL_law_224 : decode cL_law 224 = .ok (.iaload, 1) := by decide +kernel
theorem dL_law_225 : decode cL_law 225 = .ok (.aload_n 0, 1) := by decide +kernel
theorem dL_law_226 : decode cL_law 226 = .ok (.iload_n 3, 1) := by decide +kernel
theorem dL_law_227 : decode cL_law 227 = .ok (.iconst 5, 1) := by decide +kernel
theorem dL_law_228 : decode cL_law 228 = .ok (.iadd, 1) := by decide +kernel
theorem dL_law_229 : decode cL_law 229 = .ok (.iaload, 1) := by decide +kernel
theorem dL_law_230 : decode cL_law 230 = .ok (.invokevirtual 13, 3) := by decide +kernel
theorem dL_law_233 : decode cL_law 233 = .ok (.aload_n 2, 1) := by decide +kernel
theorem dL_law_234 : decode cL_law 234 = .ok (.aload_n 0, 1) := by decide +kernel
theorem dL_law_235 : decode cL_law 235 = .ok (.iload_n 3, 1) := by decide +kernel
theorem dL_law_236 : decode cL_law 236 = .ok (.iconst 1, 1) := by decide +kernel
theorem dL_law_237 : decode cL_law 237 = .ok (.iadd, 1) := by decide +kernel
theorem dL_law_238 : decode cL_law 238 = .ok (.iaload, 1) := by decide +kernel
theorem dL_law_239 : decode cL_law 239 = .ok (.aload_n 0, 1) := by decide +kernel
theorem dL_law_240 : decode cL_law 240 = .ok (.iload_n 3, 1) := by decide +kernel
theorem dL_law_241 : decode cL_law 241 = .ok (.iconst 2, 1) := by decide +kernel
theorem dL_law_242 : decode cL_law 242 = .ok (.iadd, 1) := by decide +kernel
theorem dL_law_243 : decode cL_law 243 = .ok (.iaload, 1) := by decide +kernel
theorem dL_law_244 : decode cL_law 244 = .ok (.aload_n 0, 1) := by decide +kernel
theorem dL_law_245 : decode cL_law 245 = .ok (.iload_n 3, 1) := by decide +kernel
theorem dL_law_246 : decode cL_law 246 = .ok (.iconst 3, 1) := by decide +kernel
theorem dL_law_247 : decode cL_law 247 = .ok (.iadd, 1) := by decide +kernel
theorem dL_law_248 : decode cL_law 248 = .ok (.iaload, 1) := by decide +kernel
theorem dL_law_249 : decode cL_law 249 = .ok (.aload_n 0, 1) := by decide +kernel
theorem dL_law_250 : decode cL_law 250 = .ok (.iload_n 3, 1) := by decide +kernel
theorem dL_law_251 : decode cL_law 251 = .ok (.iconst 4, 1) := by decide +kernel
theorem dL_law_252 : decode cL_law 252 = .ok (.iadd, 1) := by decide +kernel
theorem dL_law_253 : decode cL_law 253 = .ok (.iaload, 1) := by decide +kernel
theorem dL_law_254 : decode cL_law 254 = .ok (.aload_n 0, 1) := by decide +kernel
theorem dL_law_255 : decode cL_law 255 = .ok (.iload_n 3, 1) := by decide +kernel
theorem dL_law_256 : decode cL_law 256 = .ok (.iconst 5, 1) := by decide +kernel
theorem dL_law_257 : decode cL_law 257 = .ok (.iadd, 1) := by decide +kernel
theorem dL_law_258 : decode cL_law 258 = .ok (.iaload, 1) := by decide +kernel
theorem dL_law_259 : decode cL_law 259 = .ok (.invokevirtual 17, 3) := by decide +kernel
theorem dL_law_262 : decode cL_law 262 = .ok (.if_icmp .eq 1307, 3) := by decide +kernel
theorem dL_law_265 : decode cL_law 265 = .ok (.iconst 0, 1) := by decide +kernel
theorem dL_law_266 : decode cL_law 266 = .ok (.ireturn, 1) := by decide +kernel
theorem dL_law_267 : decode cL_law 267 = .ok (.aload_n 1, 1) := by decide +kernel
theorem dL_law_268 : decode cL_law 268 = .ok (.aload_n 0, 1) := by decide +kernel
theorem dL_law_269 : decode cL_law 269 = .ok (.iload_n 3, 1) := by decide +kernel
theorem dL_law_270 : decode cL_law 270 = .ok (.iconst 1, 1) := by decide +kernel
theorem dL_law_271 : decode cL_law 271 = .ok (.iadd, 1) := by decide +kernel
theorem dL_law_272 : decode cL_law 272 = .ok (.iaload, 1) := by decide +kernel
theorem dL_law_273 : decode cL_law 273 = .ok (.invokevirtual 18, 3) := by decide +kernel
theorem dL_law_276 : decode cL_law 276 = .ok (.aload_n 2, 1) := by decide +kernel
theorem dL_law_277 : decode cL_law 277 = .ok (.aload_n 0, 1) := by decide +kernel
theorem dL_law_278 : decode cL_law 278 = .ok (.iload_n 3, 1) := by decide +kernel
theorem dL_law_279 : decode cL_law 279 = .ok (.iconst 1, 1) := by decide +kernel
theorem dL_law_280 : decode cL_law 280 = .ok (.iadd, 1) := by decide +kernel
theorem dL_law_281 : decode cL_law 281 = .ok (.iaload, 1) := by decide +kernel
theorem dL_law_282 : decode cL_law 282 = .ok (.invokevirtual 22, 3) := by decide +kernel
theorem dL_law_285 : decode cL_law 285 = .ok (.if_icmp .eq 1284, 3) := by decide +kernel
theorem dL_law_288 : decode cL_law 288 = .ok (.iconst 0, 1) := by decide +kernel
theorem dL_law_289 : decode cL_law 289 = .ok (.ireturn, 1) := by decide +kernel
theorem dL_law_290 : decode cL_law 290 = .ok (.aload_n 1, 1) := by decide +kernel
theorem dL_law_291 : decode cL_law 291 = .ok (.invokevirtual 23, 3) := by decide +kernel
theorem dL_law_294 : decode cL_law 294 = .ok (.aload_n 2, 1) := by decide +kernel
theorem dL_law_295 : decode cL_law 295 = .ok (.invokevirtual 27, 3) := by decide +kernel
theorem dL_law_298 : decode cL_law 298 = .ok (.if_icmp .eq 1271, 3) := by decide +kernel
theorem dL_law_301 : decode cL_law 301 = .ok (.iconst 0, 1) := by decide +kernel
theorem dL_law_302 : decode cL_law 302 = .ok (.ireturn, 1) := by decide +kernel
theorem dL_law_303 : decode cL_law 303 = .ok (.aload_n 1, 1) := by decide +kernel
theorem dL_law_304 : decode cL_law 304 = .ok (.invokevirtual 28, 3) := by decide +kernel
theorem dL_law_307 : decode cL_law 307 = .ok (.aload_n 2, 1) := by decide +kernel
theorem dL_law_308 : decode cL_law 308 = .ok (.invokevirtual 31, 3) := by decide +kernel
theorem dL_law_311 : decode cL_law 311 = .ok (.if_icmp .eq 1258, 3) := by decide +kernel
theorem dL_law_314 : decode cL_law 314 = .ok (.iconst 0, 1) := by decide +kernel
theorem dL_law_315 : decode cL_law 315 = .ok (.ireturn, 1) := by decide +kernel
theorem dL_law_316 : decode cL_law 316 = .ok (.aload_n 1, 1) := by decide +kernel
theorem dL_law_317 : decode cL_law 317 = .ok (.aload_n 0, 1) := by decide +kernel
theorem dL_law_318 : decode cL_law 318 = .ok (.iload_n 3, 1) := by decide +kernel
theorem dL_law_319 : decode cL_law 319 = .ok (.iconst 1, 1) := by decide +kernel
theorem dL_law_320 : decode cL_law 320 = .ok (.iadd, 1) := by decide +kernel
theorem dL_law_321 : decode cL_law 321 = .ok (.iaload, 1) := by decide +kernel
theorem dL_law_322 : decode cL_law 322 = .ok (.aload_n 0, 1) := by decide +kernel
theorem dL_law_323 : decode cL_law 323 = .ok (.iload_n 3, 1) := by decide +kernel
theorem dL_law_324 : decode cL_law 324 = .ok (.iconst 2, 1) := by decide +kernel
theorem dL_law_325 : decode cL_law 325 = .ok (.iadd, 1) := by decide +kernel
theorem dL_law_326 : decode cL_law 326 = .ok (.iaload, 1) := by decide +kernel
theorem dL_law_327 : decode cL_law 327 = .ok (.invokevirtual 32, 3) := by decide +kernel
theorem dL_law_330 : decode cL_law 330 = .ok (.aload_n 2, 1) := by decide +kernel
theorem dL_law_331 : decode cL_law 331 = .ok (.aload_n 0, 1) := by decide +kernel
theorem dL_law_332 : decode cL_law 332 = .ok (.iload_n 3, 1) := by decide +kernel
theorem dL_law_333 : decode cL_law 333 = .ok (.iconst 1, 1) := by decide +kernel
theorem dL_law_334 : decode cL_law 334 = .ok (.iadd, 1) := by decide +kernel
theorem dL_law_335 : decode cL_law 335 = .ok (.iaload, 1) := by decide +kernel
theorem dL_law_336 : decode cL_law 336 = .ok (.aload_n 0, 1) := by decide +kernel
theorem dL_law_337 : decode cL_law 337 = .ok (.iload_n 3, 1) := by decide +kernel
theorem dL_law_338 : decode cL_law 338 = .ok (.iconst 2, 1) := by decide +kernel
theorem dL_law_339 : decode cL_law 339 = .ok (.iadd, 1) := by decide +kernel
theorem dL_law_340 : decode cL_law 340 = .ok (.iaload, 1) := by decide +kernel
theorem dL_law_341 : decode cL_law 341 = .ok (.invokevirtual 36, 3) := by decide +kernel
theorem dL_law_344 : decode cL_law 344 = .ok (.if_icmp .eq 1225, 3) := by decide +kernel
theorem dL_law_347 : decode cL_law 347 = .ok (.iconst 0, 1) := by decide +kernel
theorem dL_law_348 : decode cL_law 348 = .ok (.ireturn, 1) := by decide +kernel
theorem dL_law_349 : decode cL_law 349 = .ok (.aload_n 1, 1) := by decide +kernel
theorem dL_law_350 : decode cL_law 350 = .ok (.aload_n 0, 1) := by decide +kernel
theorem dL_law_351 : decode cL_law 351 = .ok (.iload_n 3, 1) := by decide +kernel
theorem dL_law_352 : decode cL_law 352 = .ok (.iconst 1, 1) := by decide +kernel
theorem dL_law_353 : decode cL_law 353 = .ok (.iadd, 1) := by decide +kernel
theorem dL_law_354 : decode cL_law 354 = .ok (.iaload, 1) := by decide +kernel
theorem dL_law_355 : decode cL_law 355 = .ok (.aload_n 0, 1) := by decide +kernel
theorem dL_law_356 : decode cL_law 356 = .ok (.iload_n 3, 1) := by decide +kernel
theorem dL_law_357 : decode cL_law 357 = .ok (.iconst 2, 1) := by decide +kernel
theorem dL_law_358 : decode cL_law 358 = .ok (.iadd, 1) := by decide +kernel
theorem dL_law_359 : decode cL_law 359 = .ok (.iaload, 1) := by decide +kernel
theorem dL_law_360 : decode cL_law 360 = .ok (.aload_n 0, 1) := by decide +kernel
theorem dL_law_361 : decode cL_law 361 = .ok (.iload_n 3, 1) := by decide +kernel
theorem dL_law_362 : decode cL_law 362 = .ok (.iconst 3, 1) := by decide +kernel
theorem dL_law_363 : decode cL_law 363 = .ok (.iadd, 1) := by decide +kernel
theorem dL_law_364 : decode cL_law 364 = .ok (.iaload, 1) := by decide +kernel
theorem dL_law_365 : decode cL_law 365 = .ok (.invokevirtual 37, 3) := by decide +kernel
theorem dL_law_368 : decode cL_law 368 = .ok (.aload_n 2, 1) := by decide +kernel
theorem dL_law_369 : decode cL_law 369 = .ok (.aload_n 0, 1) := by decide +kernel
theorem dL_law_370 : decode cL_law 370 = .ok (.iload_n 3, 1) := by decide +kernel
theorem dL_law_371 : decode cL_law 371 = .ok (.iconst 1, 1) := by decide +kernel
theorem dL_law_372 : decode cL_law 372 = .ok (.iadd, 1) := by decide +kernel
theorem dL_law_373 : decode cL_law 373 = .ok (.iaload, 1) := by decide +kernel
theorem dL_law_374 : decode cL_law 374 = .ok (.aload_n 0, 1) := by decide +kernel
theorem dL_law_375 : decode cL_law 375 = .ok (.iload_n 3, 1) := by decide +kernel
theorem dL_law_376 : decode cL_law 376 = .ok (.iconst 2, 1) := by decide +kernel
theorem dL_law_377 : decode cL_law 377 = .ok (.iadd, 1) := by decide +kernel
theorem dL_law_378 : decode cL_law 378 = .ok (.iaload, 1) := by decide +kernel
theorem dL_law_379 : decode cL_law 379 = .ok (.aload_n 0, 1) := by decide +kernel
theorem dL_law_380 : decode cL_law 380 = .ok (.iload_n 3, 1) := by decide +kernel
theorem dL_law_381 : decode cL_law 381 = .ok (.iconst 3, 1) := by decide +kernel
theorem dL_law_382 : decode cL_law 382 = .ok (.iadd, 1) := by decide +kernel
theorem dL_law_383 : decode cL_law 383 = .ok (.iaload, 1) := by decide +kernel
theorem dL_law_384 : decode cL_law 384 = .ok (.invokevirtual 41, 3) := by decide +kernel
theorem dL_law_387 : decode cL_law 387 = .ok (.if_icmp .eq 1182, 3) := by decide +kernel
theorem dL_law_390 : decode cL_law 390 = .ok (.iconst 0, 1) := by decide +kernel
theorem dL_law_391 : decode cL_law 391 = .ok (.ireturn, 1) := by decide +kernel
theorem dL_law_392 : decode cL_law 392 = .ok (.aload_n 1, 1) := by decide +kernel
theorem dL_law_393 : decode cL_law 393 = .ok (.aload_n 0, 1) := by decide +kernel
theorem dL_law_394 : decode cL_law 394 = .ok (.iload_n 3, 1) := by decide +kernel
theorem dL_law_395 : decode cL_law 395 = .ok (.iconst 1, 1) := by decide +kernel
theorem dL_law_396 : decode cL_law 396 = .ok (.iadd, 1) := by decide +kernel
theorem dL_law_397 : decode cL_law 397 = .ok (.iaload, 1) := by decide +kernel
theorem dL_law_398 : decode cL_law 398 = .ok (.aload_n 0, 1) := by decide +kernel
theorem dL_law_399 : decode cL_law 399 = .ok (.iload_n 3, 1) := by decide +kernel
theorem dL_law_400 : decode cL_law 400 = .ok (.iconst 2, 1) := by decide +kernel
theorem dL_law_401 : decode cL_law 401 = .ok (.iadd, 1) := by decide +kernel
theorem dL_law_402 : decode cL_law 402 = .ok (.iaload, 1) := by decide +kernel
theorem dL_law_403 : decode cL_law 403 = .ok (.aload_n 0, 1) := by decide +kernel
theorem dL_law_404 : decode cL_law 404 = .ok (.iload_n 3, 1) := by decide +kernel
theorem dL_law_405 : decode cL_law 405 = .ok (.iconst 3, 1) := by decide +kernel
theorem dL_law_406 : decode cL_law 406 = .ok (.iadd, 1) := by decide +kernel
theorem dL_law_407 : decode cL_law 407 = .ok (.iaload, 1) := by decide +kernel
theorem dL_law_408 : decode cL_law 408 = .ok (.invokevirtual 42, 3) := by decide +kernel
theorem dL_law_411 : decode cL_law 411 = .ok (.aload_n 2, 1) := by decide +kernel
theorem dL_law_412 : decode cL_law 412 = .ok (.aload_n 0, 1) := by decide +kernel
theorem dL_law_413 : decode cL_law 413 = .ok (.iload_n 3, 1) := by decide +kernel
theorem dL_law_414 : decode cL_law 414 = .ok (.iconst 1, 1) := by decide +kernel
theorem dL_law_415 : decode cL_law 415 = .ok (.iadd, 1) := by decide +kernel
theorem dL_law_416 : decode cL_law 416 = .ok (.iaload, 1) := by decide +kernel
theorem dL_law_417 : decode cL_law 417 = .ok (.aload_n 0, 1) := by decide +kernel
theorem dL_law_418 : decode cL_law 418 = .ok (.iload_n 3, 1) := by decide +kernel
theorem dL_law_419 : decode cL_law 419 = .ok (.iconst 2, 1) := by decide +kernel
theorem dL_law_420 : decode cL_law 420 = .ok (.iadd, 1) := by decide +kernel
theorem dL_law_421 : decode cL_law 421 = .ok (.iaload, 1) := by decide +kernel
theorem dL_law_422 : decode cL_law 422 = .ok (.aload_n 0, 1) := by decide +kernel
theorem dL_law_423 : decode cL_law 423 = .ok (.iload_n 3, 1) := by decide +kernel
theorem dL_law_424 : decode cL_law 424 = .ok (.iconst 3, 1) := by decide +kernel
theorem dL_law_425 : decode cL_law 425 = .ok (.iadd, 1) := by decide +kernel
theorem dL_law_426 : decode cL_law 426 = .ok (.iaload, 1) := by decide +kernel
theorem dL_law_427 : decode cL_law 427 = .ok (.invokevirtual 45, 3) := by decide +kernel
theorem dL_law_430 : decode cL_law 430 = .ok (.if_icmp .eq 1139, 3) := by decide +kernel
theorem dL_law_433 : decode cL_law 433 = .ok (.iconst 0, 1) := by decide +kernel
theorem dL_law_434 : decode cL_law 434 = .ok (.ireturn, 1) := by decide +kernel
theorem dL_law_435 : decode cL_law 435 = .ok (.aload_n 1, 1) := by decide +kernel
theorem dL_law_436 : decode cL_law 436 = .ok (.aload_n 0, 1) := by decide +kernel
theorem dL_law_437 : decode cL_law 437 = .ok (.iload_n 3, 1) := by decide +kernel
theorem dL_law_438 : decode cL_law 438 = .ok (.iconst 1, 1) := by decide +kernel
theorem dL_law_439 : decode cL_law 439 = .ok (.iadd, 1) := by decide +kernel
theorem dL_law_440 : decode cL_law 440 = .ok (.iaload, 1) := by decide +kernel
theorem dL_law_441 : decode cL_law 441 = .ok (.aload_n 0, 1) := by decide +kernel
theorem dL_law_442 : decode cL_law 442 = .ok (.iload_n 3, 1) := by decide +kernel
theorem dL_law_443 : decode cL_law 443 = .ok (.iconst 2, 1) := by decide +kernel
theorem dL_law_444 : decode cL_law 444 = .ok (.iadd, 1) := by decide +kernel
theorem dL_law_445 : decode cL_law 445 = .ok (.iaload, 1) := by decide +kernel
theorem dL_law_446 : decode cL_law 446 = .ok (.aload_n 0, 1) := by decide +kernel
theorem dL_law_447 : decode cL_law 447 = .ok (.iload_n 3, 1) := by decide +kernel
theorem dL_law_448 : decode cL_law 448 = .ok (.iconst 3, 1) := by decide +kernel
theorem dL_law_449 : decode cL_law 449 = .ok (.iadd, 1) := by decide +kernel
theorem dL_law_450 : decode cL_law 450 = .ok (.iaload, 1) := by decide +kernel
theorem dL_law_451 : decode cL_law 451 = .ok (.aload_n 0, 1) := by decide +kernel
theorem dL_law_452 : decode cL_law 452 = .ok (.iload_n 3, 1) := by decide +kernel
theorem dL_law_453 : decode cL_law 453 = .ok (.iconst 4, 1) := by decide +kernel
theorem dL_law_454 : decode cL_law 454 = .ok (.iadd, 1) := by decide +kernel
theorem dL_law_455 : decode cL_law 455 = .ok (.iaload, 1) := by decide +kernel
theorem dL_law_456 : decode cL_law 456 = .ok (.invokevirtual 46, 3) := by decide +kernel
theorem dL_law_459 : decode cL_law 459 = .ok (.aload_n 2, 1) := by decide +kernel
theorem dL_law_460 : decode cL_law 460 = .ok (.aload_n 0, 1) := by decide +kernel
theorem dL_law_461 : decode cL_law 461 = .ok (.iload_n 3, 1) := by decide +kernel
theorem dL_law_462 : decode cL_law 462 = .ok (.iconst 1, 1) := by decide +kernel
theorem dL_law_463 : decode cL_law 463 = .ok (.iadd, 1) := by decide +kernel
theorem dL_law_464 : decode cL_law 464 = .ok (.iaload, 1) := by decide +kernel
theorem dL_law_465 : decode cL_law 465 = .ok (.aload_n 0, 1) := by decide +kernel
theorem dL_law_466 : decode cL_law 466 = .ok (.iload_n 3, 1) := by decide +kernel
theorem dL_law_467 : decode cL_law 467 = .ok (.iconst 2, 1) := by decide +kernel
theorem dL_law_468 : decode cL_law 468 = .ok (.iadd, 1) := by decide +kernel
theorem dL_law_469 : decode cL_law 469 = .ok (.iaload, 1) := by decide +kernel
theorem dL_law_470 : decode cL_law 470 = .ok (.aload_n 0, 1) := by decide +kernel
theorem dL_law_471 : decode cL_law 471 = .ok (.iload_n 3, 1) := by decide +kernel
theorem dL_law_472 : decode cL_law 472 = .ok (.iconst 3, 1) := by decide +kernel
theorem dL_law_473 : decode cL_law 473 = .ok (.iadd, 1) := by decide +kernel
theorem dL_law_474 : decode cL_law 474 = .ok (.iaload, 1) := by decide +kernel
theorem dL_law_475 : decode cL_law 475 = .ok (.aload_n 0, 1) := by decide +kernel
theorem dL_law_476 : decode cL_law 476 = .ok (.iload_n 3, 1) := by decide +kernel
theorem dL_law_477 : decode cL_law 477 = .ok (.iconst 4, 1) := by decide +kernel
theorem dL_law_478 : decode cL_law 478 = .ok (.iadd, 1) := by decide +kernel
theorem dL_law_479 : decode cL_law 479 = .ok (.iaload, 1) := by decide +kernel
theorem dL_law_480 : decode cL_law 480 = .ok (.invokevirtual 50, 3) := by decide +kernel
theorem dL_law_483 : decode cL_law 483 = .ok (.if_icmp .eq 1086, 3) := by decide +kernel
theorem dL_law_486 : decode cL_law 486 = .ok (.iconst 0, 1) := by decide +kernel
theorem dL_law_487 : decode cL_law 487 = .ok (.ireturn, 1) := by decide +kernel
theorem dL_law_488 : decode cL_law 488 = .ok (.aload_n 1, 1) := by decide +kernel
theorem dL_law_489 : decode cL_law 489 = .ok (.aload_n 0, 1) := by decide +kernel
theorem dL_law_490 : decode cL_law 490 = .ok (.iload_n 3, 1) := by decide +kernel
theorem dL_law_491 : decode cL_law 491 = .ok (.iconst 1, 1) := by decide +kernel
theorem dL_law_492 : decode cL_law 492 = .ok (.iadd, 1) := by decide +kernel
theorem dL_law_493 : decode cL_law 493 = .ok (.iaload, 1) := by decide +kernel
theorem dL_law_494 : decode cL_law 494 = .ok (.aload_n 0, 1) := by decide +kernel
theorem dL_law_495 : decode cL_law 495 = .ok (.iload_n 3, 1) := by decide +kernel
theorem dL_law_496 : decode cL_law 496 = .ok (.iconst 2, 1) := by decide +kernel
theorem dL_law_497 : decode cL_law 497 = .ok (.iadd, 1) := by decide +kernel
theorem dL_law_498 : decode cL_law 498 = .ok (.iaload, 1) := by decide +kernel
theorem dL_law_499 : decode cL_law 499 = .ok (.aload_n 0, 1) := by decide +kernel
theorem dL_law_500 : decode cL_law 500 = .ok (.iload_n 3, 1) := by decide +kernel
theorem dL_law_501 : decode cL_law 501 = .ok (.iconst 3, 1) := by decide +kernel
theorem dL_law_502 : decode cL_law 502 = .ok (.iadd, 1) := by decide +kernel
theorem dL_law_503 : decode cL_law 503 = .ok (.iaload, 1) := by decide +kernel
theorem dL_law_504 : decode cL_law 504 = .ok (.invokevirtual 51, 3) := by decide +kernel
theorem dL_law_507 : decode cL_law 507 = .ok (.aload_n 2, 1) := by decide +kernel
theorem dL_law_508 : decode cL_law 508 = .ok (.aload_n 0, 1) := by decide +kernel
theorem dL_law_509 : decode cL_law 509 = .ok (.iload_n 3, 1) := by decide +kernel
theorem dL_law_510 : decode cL_law 510 = .ok (.iconst 1, 1) := by decide +kernel
theorem dL_law_511 : decode cL_law 511 = .ok (.iadd, 1) := by decide +kernel
theorem dL_law_512 : decode cL_law 512 = .ok (.iaload, 1) := by decide +kernel
theorem dL_law_513 : decode cL_law 513 = .ok (.aload_n 0, 1) := by decide +kernel
theorem dL_law_514 : decode cL_law 514 = .ok (.iload_n 3, 1) := by decide +kernel
theorem dL_law_515 : decode cL_law 515 = .ok (.iconst 2, 1) := by decide +kernel
theorem dL_law_516 : decode cL_law 516 = .ok (.iadd, 1) := by decide +kernel
theorem dL_law_517 : decode cL_law 517 = .ok (.iaload, 1) := by decide +kernel
theorem dL_law_518 : decode cL_law 518 = .ok (.aload_n 0, 1) := by decide +kernel
theorem dL_law_519 : decode cL_law 519 = .ok (.iload_n 3, 1) := by decide +kernel
theorem dL_law_520 : decode cL_law 520 = .ok (.iconst 3, 1) := by decide +kernel
theorem dL_law_521 : decode cL_law 521 = .ok (.iadd, 1) := by decide +kernel
theorem dL_law_522 : decode cL_law 522 = .ok (.iaload, 1) := by decide +kernel
theorem dL_law_523 : decode cL_law 523 = .ok (.invokevirtual 54, 3) := by decide +kernel
theorem dL_law_526 : decode cL_law 526 = .ok (.if_icmp .eq 1043, 3) := by decide +kernel
theorem dL_law_529 : decode cL_law 529 = .ok (.iconst 0, 1) := by decide +kernel
theorem dL_law_530 : decode cL_law 530 = .ok (.ireturn, 1) := by decide +kernel
theorem dL_law_531 : decode cL_law 531 = .ok (.aload_n 1, 1) := by decide +kernel
theorem dL_law_532 : decode cL_law 532 = .ok (.aload_n 0, 1) := by decide +kernel
theorem dL_law_533 : decode cL_law 533 = .ok (.iload_n 3, 1) := by decide +kernel
theorem dL_law_534 : decode cL_law 534 = .ok (.iconst 1, 1) := by decide +kernel
theorem dL_law_535 : decode cL_law 535 = .ok (.iadd, 1) := by decide +kernel
theorem dL_law_536 : decode cL_law 536 = .ok (.iaload, 1) := by decide +kernel
theorem dL_law_537 : decode cL_law 537 = .ok (.invokevirtual 55, 3) := by decide +kernel
theorem dL_law_540 : decode cL_law 540 = .ok (.aload_n 2, 1) := by decide +kernel
theorem dL_law_541 : decode cL_law 541 = .ok (.aload_n 0, 1) := by decide +kernel
theorem dL_law_542 : decode cL_law 542 = .ok (.iload_n 3, 1) := by decide +kernel
theorem dL_law_543 : decode cL_law 543 = .ok (.iconst 1, 1) := by decide +kernel
theorem dL_law_544 : decode cL_law 544 = .ok (.iadd, 1) := by decide +kernel
theorem dL_law_545 : decode cL_law 545 = .ok (.iaload, 1) := by decide +kernel
theorem dL_law_546 : decode cL_law 546 = .ok (.invokevirtual 58, 3) := by decide +kernel
theorem dL_law_549 : decode cL_law 549 = .ok (.if_icmp .eq 1020, 3) := by decide +kernel
theorem dL_law_552 : decode cL_law 552 = .ok (.iconst 0, 1) := by decide +kernel
theorem dL_law_553 : decode cL_law 553 = .ok (.ireturn, 1) := by decide +kernel
theorem dL_law_554 : decode cL_law 554 = .ok (.aload_n 1, 1) := by decide +kernel
theorem dL_law_555 : decode cL_law 555 = .ok (.aload_n 0, 1) := by decide +kernel
theorem dL_law_556 : decode cL_law 556 = .ok (.iload_n 3, 1) := by decide +kernel
theorem dL_law_557 : decode cL_law 557 = .ok (.iconst 1, 1) := by decide +kernel
theorem dL_law_558 : decode cL_law 558 = .ok (.iadd, 1) := by decide +kernel
theorem dL_law_559 : decode cL_law 559 = .ok (.iaload, 1) := by decide +kernel
theorem dL_law_560 : decode cL_law 560 = .ok (.invokevirtual 59, 3) := by decide +kernel
theorem dL_law_563 : decode cL_law 563 = .ok (.aload_n 2, 1) := by decide +kernel
theorem dL_law_564 : decode cL_law 564 = .ok (.aload_n 0, 1) := by decide +kernel
theorem dL_law_565 : decode cL_law 565 = .ok (.iload_n 3, 1) := by decide +kernel
theorem dL_law_566 : decode cL_law 566 = .ok (.iconst 1, 1) := by decide +kernel
theorem dL_law_567 : decode cL_law 567 = .ok (.iadd, 1) := by decide +kernel
theorem dL_law_568 : decode cL_law 568 = .ok (.iaload, 1) := by decide +kernel
theorem dL_law_569 : decode cL_law 569 = .ok (.invokevirtual 62, 3) := by decide +kernel
theorem dL_law_572 : decode cL_law 572 = .ok (.if_icmp .eq 997, 3) := by decide +kernel
theorem dL_law_575 : decode cL_law 575 = .ok (.iconst 0, 1) := by decide +kernel
theorem dL_law_576 : decode cL_law 576 = .ok (.ireturn, 1) := by decide +kernel
theorem dL_law_577 : decode cL_law 577 = .ok (.aload_n 1, 1) := by decide +kernel
theorem dL_law_578 : decode cL_law 578 = .ok (.aload_n 0, 1) := by decide +kernel
theorem dL_law_579 : decode cL_law 579 = .ok (.iload_n 3, 1) := by decide +kernel
theorem dL_law_580 : decode cL_law 580 = .ok (.iconst 1, 1) := by decide +kernel
theorem dL_law_581 : decode cL_law 581 = .ok (.iadd, 1) := by decide +kernel
theorem dL_law_582 : decode cL_law 582 = .ok (.iaload, 1) := by decide +kernel
theorem dL_law_583 : decode cL_law 583 = .ok (.aload_n 0, 1) := by decide +kernel
theorem dL_law_584 : decode cL_law 584 = .ok (.iload_n 3, 1) := by decide +kernel
theorem dL_law_585 : decode cL_law 585 = .ok (.iconst 2, 1) := by decide +kernel
theorem dL_law_586 : decode cL_law 586 = .ok (.iadd, 1) := by decide +kernel
theorem dL_law_587 : decode cL_law 587 = .ok (.iaload, 1) := by decide +kernel
theorem dL_law_588 : decode cL_law 588 = .ok (.aload_n 0, 1) := by decide +kernel
theorem dL_law_589 : decode cL_law 589 = .ok (.iload_n 3, 1) := by decide +kernel
theorem dL_law_590 : decode cL_law 590 = .ok (.iconst 3, 1) := by decide +kernel
theorem dL_law_591 : decode cL_law 591 = .ok (.iadd, 1) := by decide +kernel
theorem dL_law_592 : decode cL_law 592 = .ok (.iaload, 1) := by decide +kernel
theorem dL_law_593 : decode cL_law 593 = .ok (.invokevirtual 63, 3) := by decide +kernel
theorem dL_law_596 : decode cL_law 596 = .ok (.aload_n 2, 1) := by decide +kernel
theorem dL_law_597 : decode cL_law 597 = .ok (.aload_n 0, 1) := by decide +kernel
theorem dL_law_598 : decode cL_law 598 = .ok (.iload_n 3, 1) := by decide +kernel
theorem dL_law_599 : decode cL_law 599 = .ok (.iconst 1, 1) := by decide +kernel
theorem dL_law_600 : decode cL_law 600 = .ok (.iadd, 1) := by decide +kernel
theorem dL_law_601 : decode cL_law 601 = .ok (.iaload, 1) := by decide +kernel
theorem dL_law_602 : decode cL_law 602 = .ok (.aload_n 0, 1) := by decide +kernel
theorem dL_law_603 : decode cL_law 603 = .ok (.iload_n 3, 1) := by decide +kernel
theorem dL_law_604 : decode cL_law 604 = .ok (.iconst 2, 1) := by decide +kernel
theorem dL_law_605 : decode cL_law 605 = .ok (.iadd, 1) := by decide +kernel
theorem dL_law_606 : decode cL_law 606 = .ok (.iaload, 1) := by decide +kernel
theorem dL_law_607 : decode cL_law 607 = .ok (.aload_n 0, 1) := by decide +kernel
theorem dL_law_608 : decode cL_law 608 = .ok (.iload_n 3, 1) := by decide +kernel
theorem dL_law_609 : decode cL_law 609 = .ok (.iconst 3, 1) := by decide +kernel
theorem dL_law_610 : decode cL_law 610 = .ok (.iadd, 1) := by decide +kernel
theorem dL_law_611 : decode cL_law 611 = .ok (.iaload, 1) := by decide +kernel
theorem dL_law_612 : decode cL_law 612 = .ok (.invokevirtual 66, 3) := by decide +kernel
theorem dL_law_615 : decode cL_law 615 = .ok (.if_icmp .eq 954, 3) := by decide +kernel
theorem dL_law_618 : decode cL_law 618 = .ok (.iconst 0, 1) := by decide +kernel
theorem dL_law_619 : decode cL_law 619 = .ok (.ireturn, 1) := by decide +kernel
theorem dL_law_620 : decode cL_law 620 = .ok (.aload_n 1, 1) := by decide +kernel
theorem dL_law_621 : decode cL_law 621 = .ok (.aload_n 0, 1) := by decide +kernel
theorem dL_law_622 : decode cL_law 622 = .ok (.iload_n 3, 1) := by decide +kernel
theorem dL_law_623 : decode cL_law 623 = .ok (.iconst 1, 1) := by decide +kernel
theorem dL_law_624 : decode cL_law 624 = .ok (.iadd, 1) := by decide +kernel
theorem dL_law_625 : decode cL_law 625 = .ok (.iaload, 1) := by decide +kernel
theorem dL_law_626 : decode cL_law 626 = .ok (.invokevirtual 67, 3) := by decide +kernel
theorem dL_law_629 : decode cL_law 629 = .ok (.aload_n 2, 1) := by decide +kernel
theorem dL_law_630 : decode cL_law 630 = .ok (.aload_n 0, 1) := by decide +kernel
theorem dL_law_631 : decode cL_law 631 = .ok (.iload_n 3, 1) := by decide +kernel
theorem dL_law_632 : decode cL_law 632 = .ok (.iconst 1, 1) := by decide +kernel
theorem dL_law_633 : decode cL_law 633 = .ok (.iadd, 1) := by decide +kernel
theorem dL_law_634 : decode cL_law 634 = .ok (.iaload, 1) := by decide +kernel
theorem dL_law_635 : decode cL_law 635 = .ok (.invokevirtual 70, 3) := by decide +kernel
theorem dL_law_638 : decode cL_law 638 = .ok (.if_icmp .eq 931, 3) := by decide +kernel
theorem dL_law_641 : decode cL_law 641 = .ok (.iconst 0, 1) := by decide +kernel
theorem dL_law_642 : decode cL_law 642 = .ok (.ireturn, 1) := by decide +kernel
theorem dL_law_643 : decode cL_law 643 = .ok (.aload_n 1, 1) := by decide +kernel
theorem dL_law_644 : decode cL_law 644 = .ok (.aload_n 0, 1) := by decide +kernel
theorem dL_law_645 : decode cL_law 645 = .ok (.iload_n 3, 1) := by decide +kernel
theorem dL_law_646 : decode cL_law 646 = .ok (.iconst 1, 1) := by decide +kernel
theorem dL_law_647 : decode cL_law 647 = .ok (.iadd, 1) := by decide +kernel
theorem dL_law_648 : decode cL_law 648 = .ok (.iaload, 1) := by decide +kernel
theorem dL_law_649 : decode cL_law 649 = .ok (.aload_n 0, 1) := by decide +kernel
theorem dL_law_650 : decode cL_law 650 = .ok (.iload_n 3, 1) := by decide +kernel
theorem dL_law_651 : decode cL_law 651 = .ok (.iconst 2, 1) := by decide +kernel
theorem dL_law_652 : decode cL_law 652 = .ok (.iadd, 1) := by decide +kernel
theorem dL_law_653 : decode cL_law 653 = .ok (.iaload, 1) := by decide +kernel
theorem dL_law_654 : decode cL_law 654 = .ok (.aload_n 0, 1) := by decide +kernel
theorem dL_law_655 : decode cL_law 655 = .ok (.iload_n 3, 1) := by decide +kernel
theorem dL_law_656 : decode cL_law 656 = .ok (.iconst 3, 1) := by decide +kernel
theorem dL_law_657 : decode cL_law 657 = .ok (.iadd, 1) := by decide +kernel
theorem dL_law_658 : decode cL_law 658 = .ok (.iaload, 1) := by decide +kernel
theorem dL_law_659 : decode cL_law 659 = .ok (.invokevirtual 71, 3) := by decide +kernel
theorem dL_law_662 : decode cL_law 662 = .ok (.aload_n 2, 1) := by decide +kernel
theorem dL_law_663 : decode cL_law 663 = .ok (.aload_n 0, 1) := by decide +kernel
theorem dL_law_664 : decode cL_law 664 = .ok (.iload_n 3, 1) := by decide +kernel
theorem dL_law_665 : decode cL_law 665 = .ok (.iconst 1, 1) := by decide +kernel
theorem dL_law_666 : decode cL_law 666 = .ok (.iadd, 1) := by decide +kernel
theorem dL_law_667 : decode cL_law 667 = .ok (.iaload, 1) := by decide +kernel
theorem dL_law_668 : decode cL_law 668 = .ok (.aload_n 0, 1) := by decide +kernel
theorem dL_law_669 : decode cL_law 669 = .ok (.iload_n 3, 1) := by decide +kernel
theorem dL_law_670 : decode cL_law 670 = .ok (.iconst 2, 1) := by decide +kernel
theorem dL_law_671 : decode cL_law 671 = .ok (.iadd, 1) := by decide +kernel
theorem dL_law_672 : decode cL_law 672 = .ok (.iaload, 1) := by decide +kernel
theorem dL_law_673 : decode cL_law 673 = .ok (.aload_n 0, 1) := by decide +kernel
theorem dL_law_674 : decode cL_law 674 = .ok (.iload_n 3, 1) := by decide +kernel
theorem dL_law_675 : decode cL_law 675 = .ok (.iconst 3, 1) := by decide +kernel
theorem dL_law_676 : decode cL_law 676 = .ok (.iadd, 1) := by decide +kernel
theorem dL_law_677 : decode cL_law 677 = .ok (.iaload, 1) := by decide +kernel
theorem dL_law_678 : decode cL_law 678 = .ok (.invokevirtual 74, 3) := by decide +kernel
theorem dL_law_681 : decode cL_law 681 = .ok (.if_icmp .eq 888, 3) := by decide +kernel
theorem dL_law_684 : decode cL_law 684 = .ok (.iconst 0, 1) := by decide +kernel
theorem dL_law_685 : decode cL_law 685 = .ok (.ireturn, 1) := by decide +kernel
theorem dL_law_686 : decode cL_law 686 = .ok (.aload_n 1, 1) := by decide +kernel
theorem dL_law_687 : decode cL_law 687 = .ok (.aload_n 0, 1) := by decide +kernel
theorem dL_law_688 : decode cL_law 688 = .ok (.iload_n 3, 1) := by decide +kernel
theorem dL_law_689 : decode cL_law 689 = .ok (.iconst 1, 1) := by decide +kernel
theorem dL_law_690 : decode cL_law 690 = .ok (.iadd, 1) := by decide +kernel
theorem dL_law_691 : decode cL_law 691 = .ok (.iaload, 1) := by decide +kernel
theorem dL_law_692 : decode cL_law 692 = .ok (.aload_n 0, 1) := by decide +kernel
theorem dL_law_693 : decode cL_law 693 = .ok (.iload_n 3, 1) := by decide +kernel
theorem dL_law_694 : decode cL_law 694 = .ok (.iconst 2, 1) := by decide +kernel
theorem dL_law_695 : decode cL_law 695 = .ok (.iadd, 1) := by decide +kernel
theorem dL_law_696 : decode cL_law 696 = .ok (.iaload, 1) := by decide +kernel
theorem dL_law_697 : decode cL_law 697 = .ok (.aload_n 0, 1) := by decide +kernel
theorem dL_law_698 : decode cL_law 698 = .ok (.iload_n 3, 1) := by decide +kernel
theorem dL_law_699 : decode cL_law 699 = .ok (.iconst 3, 1) := by decide +kernel
theorem dL_law_700 : decode cL_law 700 = .ok (.iadd, 1) := by decide +kernel
theorem dL_law_701 : decode cL_law 701 = .ok (.iaload, 1) := by decide +kernel
theorem dL_law_702 : decode cL_law 702 = .ok (.invokevirtual 75, 3) := by decide +kernel
theorem dL_law_705 : decode cL_law 705 = .ok (.aload_n 2, 1) := by decide +kernel
theorem dL_law_706 : decode cL_law 706 = .ok (.aload_n 0, 1) := by decide +kernel
theorem dL_law_707 : decode cL_law 707 = .ok (.iload_n 3, 1) := by decide +kernel
theorem dL_law_708 : decode cL_law 708 = .ok (.iconst 1, 1) := by decide +kernel
theorem dL_law_709 : decode cL_law 709 = .ok (.iadd, 1) := by decide +kernel
theorem dL_law_710 : decode cL_law 710 = .ok (.iaload, 1) := by decide +kernel
theorem dL_law_711 : decode cL_law 711 = .ok (.aload_n 0, 1) := by decide +kernel
theorem dL_law_712 : decode cL_law 712 = .ok (.iload_n 3, 1) := by decide +kernel
theorem dL_law_713 : decode cL_law 713 = .ok (.iconst 2, 1) := by decide +kernel
theorem dL_law_714 : decode cL_law 714 = .ok (.iadd, 1) := by decide +kernel
theorem dL_law_715 : decode cL_law 715 = .ok (.iaload, 1) := by decide +kernel
theorem dL_law_716 : decode cL_law 716 = .ok (.aload_n 0, 1) := by decide +kernel
theorem dL_law_717 : decode cL_law 717 = .ok (.iload_n 3, 1) := by decide +kernel
theorem dL_law_718 : decode cL_law 718 = .ok (.iconst 3, 1) := by decide +kernel
theorem dL_law_719 : decode cL_law 719 = .ok (.iadd, 1) := by decide +kernel
theorem dL_law_720 : decode cL_law 720 = .ok (.iaload, 1) := by decide +kernel
theorem dL_law_721 : decode cL_law 721 = .ok (.invokevirtual 78, 3) := by decide +kernel
theorem dL_law_724 : decode cL_law 724 = .ok (.if_icmp .eq 845, 3) := by decide +kernel
theorem dL_law_727 : decode cL_law 727 = .ok (.iconst 0, 1) := by decide +kernel
theorem dL_law_728 : decode cL_law 728 = .ok (.ireturn, 1) := by decide +kernel
theorem dL_law_729 : decode cL_law 729 = .ok (.aload_n 1, 1) := by decide +kernel
theorem dL_law_730 : decode cL_law 730 = .ok (.aload_n 0, 1) := by decide +kernel
theorem dL_law_731 : decode cL_law 731 = .ok (.iload_n 3, 1) := by decide +kernel
theorem dL_law_732 : decode cL_law 732 = .ok (.iconst 1, 1) := by decide +kernel
theorem dL_law_733 : decode cL_law 733 = .ok (.iadd, 1) := by decide +kernel
theorem dL_law_734 : decode cL_law 734 = .ok (.iaload, 1) := by decide +kernel
theorem dL_law_735 : decode cL_law 735 = .ok (.aload_n 0, 1) := by decide +kernel
theorem dL_law_736 : decode cL_law 736 = .ok (.iload_n 3, 1) := by decide +kernel
theorem dL_law_737 : decode cL_law 737 = .ok (.iconst 2, 1) := by decide +kernel
theorem dL_law_738 : decode cL_law 738 = .ok (.iadd, 1) := by decide +kernel
theorem dL_law_739 : decode cL_law 739 = .ok (.iaload, 1) := by decide +kernel
theorem dL_law_740 : decode cL_law 740 = .ok (.invokevirtual 79, 3) := by decide +kernel
theorem dL_law_743 : decode cL_law 743 = .ok (.aload_n 2, 1) := by decide +kernel
theorem dL_law_744 : decode cL_law 744 = .ok (.aload_n 0, 1) := by decide +kernel
theorem dL_law_745 : decode cL_law 745 = .ok (.iload_n 3, 1) := by decide +kernel
theorem dL_law_746 : decode cL_law 746 = .ok (.iconst 1, 1) := by decide +kernel
theorem dL_law_747 : decode cL_law 747 = .ok (.iadd, 1) := by decide +kernel
theorem dL_law_748 : decode cL_law 748 = .ok (.iaload, 1) := by decide +kernel
theorem dL_law_749 : decode cL_law 749 = .ok (.aload_n 0, 1) := by decide +kernel
theorem dL_law_750 : decode cL_law 750 = .ok (.iload_n 3, 1) := by decide +kernel
theorem dL_law_751 : decode cL_law 751 = .ok (.iconst 2, 1) := by decide +kernel
theorem dL_law_752 : decode cL_law 752 = .ok (.iadd, 1) := by decide +kernel
theorem dL_law_753 : decode cL_law 753 = .ok (.iaload, 1) := by decide +kernel
theorem dL_law_754 : decode cL_law 754 = .ok (.invokevirtual 82, 3) := by decide +kernel
theorem dL_law_757 : decode cL_law 757 = .ok (.if_icmp .eq 812, 3) := by decide +kernel
theorem dL_law_760 : decode cL_law 760 = .ok (.iconst 0, 1) := by decide +kernel
theorem dL_law_761 : decode cL_law 761 = .ok (.ireturn, 1) := by decide +kernel
theorem dL_law_762 : decode cL_law 762 = .ok (.aload_n 1, 1) := by decide +kernel
theorem dL_law_763 : decode cL_law 763 = .ok (.aload_n 0, 1) := by decide +kernel
theorem dL_law_764 : decode cL_law 764 = .ok (.iload_n 3, 1) := by decide +kernel
theorem dL_law_765 : decode cL_law 765 = .ok (.iconst 1, 1) := by decide +kernel
theorem dL_law_766 : decode cL_law 766 = .ok (.iadd, 1) := by decide +kernel
theorem dL_law_767 : decode cL_law 767 = .ok (.iaload, 1) := by decide +kernel
theorem dL_law_768 : decode cL_law 768 = .ok (.invokevirtual 83, 3) := by decide +kernel
theorem dL_law_771 : decode cL_law 771 = .ok (.aload_n 2, 1) := by decide +kernel
theorem dL_law_772 : decode cL_law 772 = .ok (.aload_n 0, 1) := by decide +kernel
theorem dL_law_773 : decode cL_law 773 = .ok (.iload_n 3, 1) := by decide +kernel
theorem dL_law_774 : decode cL_law 774 = .ok (.iconst 1, 1) := by decide +kernel
theorem dL_law_775 : decode cL_law 775 = .ok (.iadd, 1) := by decide +kernel
theorem dL_law_776 : decode cL_law 776 = .ok (.iaload, 1) := by decide +kernel
theorem dL_law_777 : decode cL_law 777 = .ok (.invokevirtual 86, 3) := by decide +kernel
theorem dL_law_780 : decode cL_law 780 = .ok (.if_icmp .eq 789, 3) := by decide +kernel
theorem dL_law_783 : decode cL_law 783 = .ok (.iconst 0, 1) := by decide +kernel
theorem dL_law_784 : decode cL_law 784 = .ok (.ireturn, 1) := by decide +kernel
theorem dL_law_785 : decode cL_law 785 = .ok (.aload_n 1, 1) := by decide +kernel
theorem dL_law_786 : decode cL_law 786 = .ok (.aload_n 0, 1) := by decide +kernel
theorem dL_law_787 : decode cL_law 787 = .ok (.iload_n 3, 1) := by decide +kernel
theorem dL_law_788 : decode cL_law 788 = .ok (.iconst 1, 1) := by decide +kernel
theorem dL_law_789 : decode cL_law 789 = .ok (.iadd, 1) := by decide +kernel
theorem dL_law_790 : decode cL_law 790 = .ok (.iaload, 1) := by decide +kernel
theorem dL_law_791 : decode cL_law 791 = .ok (.aload_n 0, 1) := by decide +kernel
theorem dL_law_792 : decode cL_law 792 = .ok (.iload_n 3, 1) := by decide +kernel
theorem dL_law_793 : decode cL_law 793 = .ok (.iconst 2, 1) := by decide +kernel
theorem dL_law_794 : decode cL_law 794 = .ok (.iadd, 1) := by decide +kernel
theorem dL_law_795 : decode cL_law 795 = .ok (.iaload, 1) := by decide +kernel
theorem dL_law_796 : decode cL_law 796 = .ok (.invokevirtual 87, 3) := by decide +kernel
theorem dL_law_799 : decode cL_law 799 = .ok (.aload_n 2, 1) := by decide +kernel
theorem dL_law_800 : decode cL_law 800 = .ok (.aload_n 0, 1) := by decide +kernel
theorem dL_law_801 : decode cL_law 801 = .ok (.iload_n 3, 1) := by decide +kernel
theorem dL_law_802 : decode cL_law 802 = .ok (.iconst 1, 1) := by decide +kernel
theorem dL_law_803 : decode cL_law 803 = .ok (.iadd, 1) := by decide +kernel
theorem dL_law_804 : decode cL_law 804 = .ok (.iaload, 1) := by decide +kernel
theorem dL_law_805 : decode cL_law 805 = .ok (.aload_n 0, 1) := by decide +kernel
theorem dL_law_806 : decode cL_law 806 = .ok (.iload_n 3, 1) := by decide +kernel
theorem dL_law_807 : decode cL_law 807 = .ok (.iconst 2, 1) := by decide +kernel
theorem dL_law_808 : decode cL_law 808 = .ok (.iadd, 1) := by decide +kernel
theorem dL_law_809 : decode cL_law 809 = .ok (.iaload, 1) := by decide +kernel
theorem dL_law_810 : decode cL_law 810 = .ok (.invokevirtual 90, 3) := by decide +kernel
theorem dL_law_813 : decode cL_law 813 = .ok (.if_icmp .eq 756, 3) := by decide +kernel
theorem dL_law_816 : decode cL_law 816 = .ok (.iconst 0, 1) := by decide +kernel
theorem dL_law_817 : decode cL_law 817 = .ok (.ireturn, 1) := by decide +kernel
theorem dL_law_818 : decode cL_law 818 = .ok (.aload_n 1, 1) := by decide +kernel
theorem dL_law_819 : decode cL_law 819 = .ok (.aload_n 0, 1) := by decide +kernel
theorem dL_law_820 : decode cL_law 820 = .ok (.iload_n 3, 1) := by decide +kernel
theorem dL_law_821 : decode cL_law 821 = .ok (.iconst 1, 1) := by decide +kernel
theorem dL_law_822 : decode cL_law 822 = .ok (.iadd, 1) := by decide +kernel
theorem dL_law_823 : decode cL_law 823 = .ok (.iaload, 1) := by decide +kernel
theorem dL_law_824 : decode cL_law 824 = .ok (.aload_n 0, 1) := by decide +kernel
theorem dL_law_825 : decode cL_law 825 = .ok (.iload_n 3, 1) := by decide +kernel
theorem dL_law_826 : decode cL_law 826 = .ok (.iconst 2, 1) := by decide +kernel
theorem dL_law_827 : decode cL_law 827 = .ok (.iadd, 1) := by decide +kernel
theorem dL_law_828 : decode cL_law 828 = .ok (.iaload, 1) := by decide +kernel
theorem dL_law_829 : decode cL_law 829 = .ok (.aload_n 0, 1) := by decide +kernel
theorem dL_law_830 : decode cL_law 830 = .ok (.iload_n 3, 1) := by decide +kernel
theorem dL_law_831 : decode cL_law 831 = .ok (.iconst 3, 1) := by decide +kernel
theorem dL_law_832 : decode cL_law 832 = .ok (.iadd, 1) := by decide +kernel
theorem dL_law_833 : decode cL_law 833 = .ok (.iaload, 1) := by decide +kernel
theorem dL_law_834 : decode cL_law 834 = .ok (.aload_n 0, 1) := by decide +kernel
theorem dL_law_835 : decode cL_law 835 = .ok (.iload_n 3, 1) := by decide +kernel
theorem dL_law_836 : decode cL_law 836 = .ok (.iconst 4, 1) := by decide +kernel
theorem dL_law_837 : decode cL_law 837 = .ok (.iadd, 1) := by decide +kernel
theorem dL_law_838 : decode cL_law 838 = .ok (.iaload, 1) := by decide +kernel
theorem dL_law_839 : decode cL_law 839 = .ok (.ifCond .eq 7, 3) := by decide +kernel
theorem dL_law_842 : decode cL_law 842 = .ok (.iconst 1, 1) := by decide +kernel
theorem dL_law_843 : decode cL_law 843 = .ok (.goto 4, 3) := by decide +kernel
theorem dL_law_846 : decode cL_law 846 = .ok (.iconst 0, 1) := by decide +kernel
theorem dL_law_847 : decode cL_law 847 = .ok (.aload_n 0, 1) := by decide +kernel
theorem dL_law_848 : decode cL_law 848 = .ok (.iload_n 3, 1) := by decide +kernel
theorem dL_law_849 : decode cL_law 849 = .ok (.iconst 5, 1) := by decide +kernel
theorem dL_law_850 : decode cL_law 850 = .ok (.iadd, 1) := by decide +kernel
theorem dL_law_851 : decode cL_law 851 = .ok (.iaload, 1) := by decide +kernel
theorem dL_law_852 : decode cL_law 852 = .ok (.invokevirtual 91, 3) := by decide +kernel
theorem dL_law_855 : decode cL_law 855 = .ok (.aload_n 2, 1) := by decide +kernel
theorem dL_law_856 : decode cL_law 856 = .ok (.aload_n 0, 1) := by decide +kernel
theorem dL_law_857 : decode cL_law 857 = .ok (.iload_n 3, 1) := by decide +kernel
theorem dL_law_858 : decode cL_law 858 = .ok (.iconst 1, 1) := by decide +kernel
theorem dL_law_859 : decode cL_law 859 = .ok (.iadd, 1) := by decide +kernel
theorem dL_law_860 : decode cL_law 860 = .ok (.iaload, 1) := by decide +kernel
theorem dL_law_861 : decode cL_law 861 = .ok (.aload_n 0, 1) := by decide +kernel
theorem dL_law_862 : decode cL_law 862 = .ok (.iload_n 3, 1) := by decide +kernel
theorem dL_law_863 : decode cL_law 863 = .ok (.iconst 2, 1) := by decide +kernel
theorem dL_law_864 : decode cL_law 864 = .ok (.iadd, 1) := by decide +kernel
theorem dL_law_865 : decode cL_law 865 = .ok (.iaload, 1) := by decide +kernel
theorem dL_law_866 : decode cL_law 866 = .ok (.aload_n 0, 1) := by decide +kernel
theorem dL_law_867 : decode cL_law 867 = .ok (.iload_n 3, 1) := by decide +kernel
theorem dL_law_868 : decode cL_law 868 = .ok (.iconst 3, 1) := by decide +kernel
theorem dL_law_869 : decode cL_law 869 = .ok (.iadd, 1) := by decide +kernel
theorem dL_law_870 : decode cL_law 870 = .ok (.iaload, 1) := by decide +kernel
theorem dL_law_871 : decode cL_law 871 = .ok (.aload_n 0, 1) := by decide +kernel
theorem dL_law_872 : decode cL_law 872 = .ok (.iload_n 3, 1) := by decide +kernel
theorem dL_law_873 : decode cL_law 873 = .ok (.iconst 4, 1) := by decide +kernel
theorem dL_law_874 : decode cL_law 874 = .ok (.iadd, 1) := by decide +kernel
theorem dL_law_875 : decode cL_law 875 = .ok (.iaload, 1) := by decide +kernel
theorem dL_law_876 : decode cL_law 876 = .ok (.ifCond .eq 7, 3) := by decide +kernel
theorem dL_law_879 : decode cL_law 879 = .ok (.iconst 1, 1) := by decide +kernel
theorem dL_law_880 : decode cL_law 880 = .ok (.goto 4, 3) := by decide +kernel
theorem dL_law_883 : decode cL_law 883 = .ok (.iconst 0, 1) := by decide +kernel
theorem dL_law_884 : decode cL_law 884 = .ok (.aload_n 0, 1) := by decide +kernel
theorem dL_law_885 : decode cL_law 885 = .ok (.iload_n 3, 1) := by decide +kernel
theorem dL_law_886 : decode cL_law 886 = .ok (.iconst 5, 1) := by decide +kernel
theorem dL_law_887 : decode cL_law 887 = .ok (.iadd, 1) := by decide +kernel
theorem dL_law_888 : decode cL_law 888 = .ok (.iaload, 1) := by decide +kernel
theorem dL_law_889 : decode cL_law 889 = .ok (.invokevirtual 95, 3) := by decide +kernel
theorem dL_law_892 : decode cL_law 892 = .ok (.if_icmp .eq 677, 3) := by decide +kernel
theorem dL_law_895 : decode cL_law 895 = .ok (.iconst 0, 1) := by decide +kernel
theorem dL_law_896 : decode cL_law 896 = .ok (.ireturn, 1) := by decide +kernel
theorem dL_law_897 : decode cL_law 897 = .ok (.aload_n 1, 1) := by decide +kernel
theorem dL_law_898 : decode cL_law 898 = .ok (.aload_n 0, 1) := by decide +kernel
theorem dL_law_899 : decode cL_law 899 = .ok (.iload_n 3, 1) := by decide +kernel
theorem dL_law_900 : decode cL_law 900 = .ok (.iconst 1, 1) := by decide +kernel
theorem dL_law_901 : decode cL_law 901 = .ok (.iadd, 1) := by decide +kernel
theorem dL_law_902 : decode cL_law 902 = .ok (.iaload, 1) := by decide +kernel
theorem dL_law_903 : decode cL_law 903 = .ok (.invokevirtual 96, 3) := by decide +kernel
theorem dL_law_906 : decode cL_law 906 = .ok (.aload_n 2, 1) := by decide +kernel
theorem dL_law_907 : decode cL_law 907 = .ok (.aload_n 0, 1) := by decide +kernel
theorem dL_law_908 : decode cL_law 908 = .ok (.iload_n 3, 1) := by decide +kernel
theorem dL_law_909 : decode cL_law 909 = .ok (.iconst 1, 1) := by decide +kernel
theorem dL_law_910 : decode cL_law 910 = .ok (.iadd, 1) := by decide +kernel
theorem dL_law_911 : decode cL_law 911 = .ok (.iaload, 1) := by decide +kernel
theorem dL_law_912 : decode cL_law 912 = .ok (.invokevirtual 99, 3) := by decide +kernel
theorem dL_law_915 : decode cL_law 915 = .ok (.if_icmp .eq 654, 3) := by decide +kernel
theorem dL_law_918 : decode cL_law 918 = .ok (.iconst 0, 1) := by decide +kernel
theorem dL_law_919 : decode cL_law 919 = .ok (.ireturn, 1) := by decide +kernel
theorem dL_law_920 : decode cL_law 920 = .ok (.aload_n 1, 1) := by decide +kernel
theorem dL_law_921 : decode cL_law 921 = .ok (.aload_n 0, 1) := by decide +kernel
theorem dL_law_922 : decode cL_law 922 = .ok (.iload_n 3, 1) := by decide +kernel
theorem dL_law_923 : decode cL_law 923 = .ok (.iconst 1, 1) := by decide +kernel
theorem dL_law_924 : decode cL_law 924 = .ok (.iadd, 1) := by decide +kernel
theorem dL_law_925 : decode cL_law 925 = .ok (.iaload, 1) := by decide +kernel
theorem dL_law_926 : decode cL_law 926 = .ok (.aload_n 0, 1) := by decide +kernel
theorem dL_law_927 : decode cL_law 927 = .ok (.iload_n 3, 1) := by decide +kernel
theorem dL_law_928 : decode cL_law 928 = .ok (.iconst 2, 1) := by decide +kernel
theorem dL_law_929 : decode cL_law 929 = .ok (.iadd, 1) := by decide +kernel
theorem dL_law_930 : decode cL_law 930 = .ok (.iaload, 1) := by decide +kernel
theorem dL_law_931 : decode cL_law 931 = .ok (.aload_n 0, 1) := by decide +kernel
theorem dL_law_932 : decode cL_law 932 = .ok (.iload_n 3, 1) := by decide +kernel
theorem dL_law_933 : decode cL_law 933 = .ok (.iconst 3, 1) := by decide +kernel
theorem dL_law_934 : decode cL_law 934 = .ok (.iadd, 1) := by decide +kernel
theorem dL_law_935 : decode cL_law 935 = .ok (.iaload, 1) := by decide +kernel
theorem dL_law_936 : decode cL_law 936 = .ok (.invokevirtual 100, 3) := by decide +kernel
theorem dL_law_939 : decode cL_law 939 = .ok (.aload_n 2, 1) := by decide +kernel
theorem dL_law_940 : decode cL_law 940 = .ok (.aload_n 0, 1) := by decide +kernel
theorem dL_law_941 : decode cL_law 941 = .ok (.iload_n 3, 1) := by decide +kernel
theorem dL_law_942 : decode cL_law 942 = .ok (.iconst 1, 1) := by decide +kernel
theorem dL_law_943 : decode cL_law 943 = .ok (.iadd, 1) := by decide +kernel
theorem dL_law_944 : decode cL_law 944 = .ok (.iaload, 1) := by decide +kernel
theorem dL_law_945 : decode cL_law 945 = .ok (.aload_n 0, 1) := by decide +kernel
theorem dL_law_946 : decode cL_law 946 = .ok (.iload_n 3, 1) := by decide +kernel
theorem dL_law_947 : decode cL_law 947 = .ok (.iconst 2, 1) := by decide +kernel
theorem dL_law_948 : decode cL_law 948 = .ok (.iadd, 1) := by decide +kernel
theorem dL_law_949 : decode cL_law 949 = .ok (.iaload, 1) := by decide +kernel
theorem dL_law_950 : decode cL_law 950 = .ok (.aload_n 0, 1) := by decide +kernel
theorem dL_law_951 : decode cL_law 951 = .ok (.iload_n 3, 1) := by decide +kernel
theorem dL_law_952 : decode cL_law 952 = .ok (.iconst 3, 1) := by decide +kernel
theorem dL_law_953 : decode cL_law 953 = .ok (.iadd, 1) := by decide +kernel
theorem dL_law_954 : decode cL_law 954 = .ok (.iaload, 1) := by decide +kernel
theorem dL_law_955 : decode cL_law 955 = .ok (.invokevirtual 103, 3) := by decide +kernel
theorem dL_law_958 : decode cL_law 958 = .ok (.if_icmp .eq 611, 3) := by decide +kernel
theorem dL_law_961 : decode cL_law 961 = .ok (.iconst 0, 1) := by decide +kernel
theorem dL_law_962 : decode cL_law 962 = .ok (.ireturn, 1) := by decide +kernel
theorem dL_law_963 : decode cL_law 963 = .ok (.aload_n 1, 1) := by decide +kernel
theorem dL_law_964 : decode cL_law 964 = .ok (.aload_n 0, 1) := by decide +kernel
theorem dL_law_965 : decode cL_law 965 = .ok (.iload_n 3, 1) := by decide +kernel
theorem dL_law_966 : decode cL_law 966 = .ok (.iconst 1, 1) := by decide +kernel
theorem dL_law_967 : decode cL_law 967 = .ok (.iadd, 1) := by decide +kernel
theorem dL_law_968 : decode cL_law 968 = .ok (.iaload, 1) := by decide +kernel
theorem dL_law_969 : decode cL_law 969 = .ok (.aload_n 0, 1) := by decide +kernel
theorem dL_law_970 : decode cL_law 970 = .ok (.iload_n 3, 1) := by decide +kernel
theorem dL_law_971 : decode cL_law 971 = .ok (.iconst 2, 1) := by decide +kernel
theorem dL_law_972 : decode cL_law 972 = .ok (.iadd, 1) := by decide +kernel
theorem dL_law_973 : decode cL_law 973 = .ok (.iaload, 1) := by decide +kernel
theorem dL_law_974 : decode cL_law 974 = .ok (.aload_n 0, 1) := by decide +kernel
theorem dL_law_975 : decode cL_law 975 = .ok (.iload_n 3, 1) := by decide +kernel
theorem dL_law_976 : decode cL_law 976 = .ok (.iconst 3, 1) := by decide +kernel
theorem dL_law_977 : decode cL_law 977 = .ok (.iadd, 1) := by decide +kernel
theorem dL_law_978 : decode cL_law 978 = .ok (.iaload, 1) := by decide +kernel
theorem dL_law_979 : decode cL_law 979 = .ok (.invokevirtual 104, 3) := by decide +kernel
theorem dL_law_982 : decode cL_law 982 = .ok (.aload_n 2, 1) := by decide +kernel
theorem dL_law_983 : decode cL_law 983 = .ok (.aload_n 0, 1) := by decide +kernel
theorem dL_law_984 : decode cL_law 984 = .ok (.iload_n 3, 1) := by decide +kernel
theorem dL_law_985 : decode cL_law 985 = .ok (.iconst 1, 1) := by decide +kernel
theorem dL_law_986 : decode cL_law 986 = .ok (.iadd, 1) := by decide +kernel
theorem dL_law_987 : decode cL_law 987 = .ok (.iaload, 1) := by decide +kernel
theorem dL_law_988 : decode cL_law 988 = .ok (.aload_n 0, 1) := by decide +kernel
theorem dL_law_989 : decode cL_law 989 = .ok (.iload_n 3, 1) := by decide +kernel
theorem dL_law_990 : decode cL_law 990 = .ok (.iconst 2, 1) := by decide +kernel
theorem dL_law_991 : decode cL_law 991 = .ok (.iadd, 1) := by decide +kernel
theorem dL_law_992 : decode cL_law 992 = .ok (.iaload, 1) := by decide +kernel
theorem dL_law_993 : decode cL_law 993 = .ok (.aload_n 0, 1) := by decide +kernel
theorem dL_law_994 : decode cL_law 994 = .ok (.iload_n 3, 1) := by decide +kernel
theorem dL_law_995 : decode cL_law 995 = .ok (.iconst 3, 1) := by decide +kernel
theorem dL_law_996 : decode cL_law 996 = .ok (.iadd, 1) := by decide +kernel
theorem dL_law_997 : decode cL_law 997 = .ok (.iaload, 1) := by decide +kernel
theorem dL_law_998 : decode cL_law 998 = .ok (.invokevirtual 107, 3) := by decide +kernel
theorem dL_law_1001 : decode cL_law 1001 = .ok (.if_icmp .eq 568, 3) := by decide +kernel
theorem dL_law_1004 : decode cL_law 1004 = .ok (.iconst 0, 1) := by decide +kernel
theorem dL_law_1005 : decode cL_law 1005 = .ok (.ireturn, 1) := by decide +kernel
theorem dL_law_1006 : decode cL_law 1006 = .ok (.aload_n 1, 1) := by decide +kernel
theorem dL_law_1007 : decode cL_law 1007 = .ok (.aload_n 0, 1) := by decide +kernel
theorem dL_law_1008 : decode cL_law 1008 = .ok (.iload_n 3, 1) := by decide +kernel
theorem dL_law_1009 : decode cL_law 1009 = .ok (.iconst 1, 1) := by decide +kernel
theorem dL_law_1010 : decode cL_law 1010 = .ok (.iadd, 1) := by decide +kernel
theorem dL_law_1011 : decode cL_law 1011 = .ok (.iaload, 1) := by decide +kernel
theorem dL_law_1012 : decode cL_law 1012 = .ok (.invokevirtual 108, 3) := by decide +kernel
theorem dL_law_1015 : decode cL_law 1015 = .ok (.aload_n 2, 1) := by decide +kernel
theorem dL_law_1016 : decode cL_law 1016 = .ok (.aload_n 0, 1) := by decide +kernel
theorem dL_law_1017 : decode cL_law 1017 = .ok (.iload_n 3, 1) := by decide +kernel
theorem dL_law_1018 : decode cL_law 1018 = .ok (.iconst 1, 1) := by decide +kernel
theorem dL_law_1019 : decode cL_law 1019 = .ok (.iadd, 1) := by decide +kernel
theorem dL_law_1020 : decode cL_law 1020 = .ok (.iaload, 1) := by decide +kernel
theorem dL_law_1021 : decode cL_law 1021 = .ok (.invokevirtual 111, 3) := by decide +kernel
theorem dL_law_1024 : decode cL_law 1024 = .ok (.if_icmp .eq 545, 3) := by decide +kernel
theorem dL_law_1027 : decode cL_law 1027 = .ok (.iconst 0, 1) := by decide +kernel
theorem dL_law_1028 : decode cL_law 1028 = .ok (.ireturn, 1) := by decide +kernel
theorem dL_law_1029 : decode cL_law 1029 = .ok (.aload_n 1, 1) := by decide +kernel
theorem dL_law_1030 : decode cL_law 1030 = .ok (.aload_n 0, 1) := by decide +kernel
theorem dL_law_1031 : decode cL_law 1031 = .ok (.iload_n 3, 1) := by decide +kernel
theorem dL_law_1032 : decode cL_law 1032 = .ok (.iconst 1, 1) := by decide +kernel
theorem dL_law_1033 : decode cL_law 1033 = .ok (.iadd, 1) := by decide +kernel
theorem dL_law_1034 : decode cL_law 1034 = .ok (.iaload, 1) := by decide +kernel
theorem dL_law_1035 : decode cL_law 1035 = .ok (.aload_n 0, 1) := by decide +kernel
theorem dL_law_1036 : decode cL_law 1036 = .ok (.iload_n 3, 1) := by decide +kernel
theorem dL_law_1037 : decode cL_law 1037 = .ok (.iconst 2, 1) := by decide +kernel
theorem dL_law_1038 : decode cL_law 1038 = .ok (.iadd, 1) := by decide +kernel
theorem dL_law_1039 : decode cL_law 1039 = .ok (.iaload, 1) := by decide +kernel
theorem dL_law_1040 : decode cL_law 1040 = .ok (.aload_n 0, 1) := by decide +kernel
theorem dL_law_1041 : decode cL_law 1041 = .ok (.iload_n 3, 1) := by decide +kernel
theorem dL_law_1042 : decode cL_law 1042 = .ok (.iconst 3, 1) := by decide +kernel
theorem dL_law_1043 : decode cL_law 1043 = .ok (.iadd, 1) := by decide +kernel
theorem dL_law_1044 : decode cL_law 1044 = .ok (.iaload, 1) := by decide +kernel
theorem dL_law_1045 : decode cL_law 1045 = .ok (.invokevirtual 112, 3) := by decide +kernel
theorem dL_law_1048 : decode cL_law 1048 = .ok (.aload_n 2, 1) := by decide +kernel
theorem dL_law_1049 : decode cL_law 1049 = .ok (.aload_n 0, 1) := by decide +kernel
theorem dL_law_1050 : decode cL_law 1050 = .ok (.iload_n 3, 1) := by decide +kernel
theorem dL_law_1051 : decode cL_law 1051 = .ok (.iconst 1, 1) := by decide +kernel
theorem dL_law_1052 : decode cL_law 1052 = .ok (.iadd, 1) := by decide +kernel
theorem dL_law_1053 : decode cL_law 1053 = .ok (.iaload, 1) := by decide +kernel
theorem dL_law_1054 : decode cL_law 1054 = .ok (.aload_n 0, 1) := by decide +kernel
theorem dL_law_1055 : decode cL_law 1055 = .ok (.iload_n 3, 1) := by decide +kernel
theorem dL_law_1056 : decode cL_law 1056 = .ok (.iconst 2, 1) := by decide +kernel
theorem dL_law_1057 : decode cL_law 1057 = .ok (.iadd, 1) := by decide +kernel
theorem dL_law_1058 : decode cL_law 1058 = .ok (.iaload, 1) := by decide +kernel
theorem dL_law_1059 : decode cL_law 1059 = .ok (.aload_n 0, 1) := by decide +kernel
theorem dL_law_1060 : decode cL_law 1060 = .ok (.iload_n 3, 1) := by decide +kernel
theorem dL_law_1061 : decode cL_law 1061 = .ok (.iconst 3, 1) := by decide +kernel
theorem dL_law_1062 : decode cL_law 1062 = .ok (.iadd, 1) := by decide +kernel
theorem dL_law_1063 : decode cL_law 1063 = .ok (.iaload, 1) := by decide +kernel
theorem dL_law_1064 : decode cL_law 1064 = .ok (.invokevirtual 115, 3) := by decide +kernel
theorem dL_law_1067 : decode cL_law 1067 = .ok (.if_icmp .eq 502, 3) := by decide +kernel
theorem dL_law_1070 : decode cL_law 1070 = .ok (.iconst 0, 1) := by decide +kernel
theorem dL_law_1071 : decode cL_law 1071 = .ok (.ireturn, 1) := by decide +kernel
theorem dL_law_1072 : decode cL_law 1072 = .ok (.aload_n 1, 1) := by decide +kernel
theorem dL_law_1073 : decode cL_law 1073 = .ok (.aload_n 0, 1) := by decide +kernel
theorem dL_law_1074 : decode cL_law 1074 = .ok (.iload_n 3, 1) := by decide +kernel
theorem dL_law_1075 : decode cL_law 1075 = .ok (.iconst 1, 1) := by decide +kernel
theorem dL_law_1076 : decode cL_law 1076 = .ok (.iadd, 1) := by decide +kernel
theorem dL_law_1077 : decode cL_law 1077 = .ok (.iaload, 1) := by decide +kernel
theorem dL_law_1078 : decode cL_law 1078 = .ok (.aload_n 0, 1) := by decide +kernel
theorem dL_law_1079 : decode cL_law 1079 = .ok (.iload_n 3, 1) := by decide +kernel
theorem dL_law_1080 : decode cL_law 1080 = .ok (.iconst 2, 1) := by decide +kernel
theorem dL_law_1081 : decode cL_law 1081 = .ok (.iadd, 1) := by decide +kernel
theorem dL_law_1082 : decode cL_law 1082 = .ok (.iaload, 1) := by decide +kernel
theorem dL_law_1083 : decode cL_law 1083 = .ok (.invokevirtual 116, 3) := by decide +kernel
theorem dL_law_1086 : decode cL_law 1086 = .ok (.aload_n 2, 1) := by decide +kernel
theorem dL_law_1087 : decode cL_law 1087 = .ok (.aload_n 0, 1) := by decide +kernel
theorem dL_law_1088 : decode cL_law 1088 = .ok (.iload_n 3, 1) := by decide +kernel
theorem dL_law_1089 : decode cL_law 1089 = .ok (.iconst 1, 1) := by decide +kernel
theorem dL_law_1090 : decode cL_law 1090 = .ok (.iadd, 1) := by decide +kernel
theorem dL_law_1091 : decode cL_law 1091 = .ok (.iaload, 1) := by decide +kernel
theorem dL_law_1092 : decode cL_law 1092 = .ok (.aload_n 0, 1) := by decide +kernel
theorem dL_law_1093 : decode cL_law 1093 = .ok (.iload_n 3, 1) := by decide +kernel
theorem dL_law_1094 : decode cL_law 1094 = .ok (.iconst 2, 1) := by decide +kernel
theorem dL_law_1095 : decode cL_law 1095 = .ok (.iadd, 1) := by decide +kernel
theorem dL_law_1096 : decode cL_law 1096 = .ok (.iaload, 1) := by decide +kernel
theorem dL_law_1097 : decode cL_law 1097 = .ok (.invokevirtual 119, 3) := by decide +kernel
theorem dL_law_1100 : decode cL_law 1100 = .ok (.if_icmp .eq 469, 3) := by decide +kernel
theorem dL_law_1103 : decode cL_law 1103 = .ok (.iconst 0, 1) := by decide +kernel
theorem dL_law_1104 : decode cL_law 1104 = .ok (.ireturn, 1) := by decide +kernel
theorem dL_law_1105 : decode cL_law 1105 = .ok (.aload_n 1, 1) := by decide +kernel
theorem dL_law_1106 : decode cL_law 1106 = .ok (.aload_n 0, 1) := by decide +kernel
theorem dL_law_1107 : decode cL_law 1107 = .ok (.iload_n 3, 1) := by decide +kernel
theorem dL_law_1108 : decode cL_law 1108 = .ok (.iconst 1, 1) := by decide +kernel
theorem dL_law_1109 : decode cL_law 1109 = .ok (.iadd, 1) := by decide +kernel
theorem dL_law_1110 : decode cL_law 1110 = .ok (.iaload, 1) := by decide +kernel
theorem dL_law_1111 : decode cL_law 1111 = .ok (.aload_n 0, 1) := by decide +kernel
theorem dL_law_1112 : decode cL_law 1112 = .ok (.iload_n 3, 1) := by decide +kernel
theorem dL_law_1113 : decode cL_law 1113 = .ok (.iconst 2, 1) := by decide +kernel
theorem dL_law_1114 : decode cL_law 1114 = .ok (.iadd, 1) := by decide +kernel
theorem dL_law_1115 : decode cL_law 1115 = .ok (.iaload, 1) := by decide +kernel
theorem dL_law_1116 : decode cL_law 1116 = .ok (.aload_n 0, 1) := by decide +kernel
theorem dL_law_1117 : decode cL_law 1117 = .ok (.iload_n 3, 1) := by decide +kernel
theorem dL_law_1118 : decode cL_law 1118 = .ok (.iconst 3, 1) := by decide +kernel
theorem dL_law_1119 : decode cL_law 1119 = .ok (.iadd, 1) := by decide +kernel
theorem dL_law_1120 : decode cL_law 1120 = .ok (.iaload, 1) := by decide +kernel
theorem dL_law_1121 : decode cL_law 1121 = .ok (.invokevirtual 120, 3) := by decide +kernel
theorem dL_law_1124 : decode cL_law 1124 = .ok (.aload_n 2, 1) := by decide +kernel
theorem dL_law_1125 : decode cL_law 1125 = .ok (.aload_n 0, 1) := by decide +kernel
theorem dL_law_1126 : decode cL_law 1126 = .ok (.iload_n 3, 1) := by decide +kernel
theorem dL_law_1127 : decode cL_law 1127 = .ok (.iconst 1, 1) := by decide +kernel
theorem dL_law_1128 : decode cL_law 1128 = .ok (.iadd, 1) := by decide +kernel
theorem dL_law_1129 : decode cL_law 1129 = .ok (.iaload, 1) := by decide +kernel
theorem dL_law_1130 : decode cL_law 1130 = .ok (.aload_n 0, 1) := by decide +kernel
theorem dL_law_1131 : decode cL_law 1131 = .ok (.iload_n 3, 1) := by decide +kernel
theorem dL_law_1132 : decode cL_law 1132 = .ok (.iconst 2, 1) := by decide +kernel
theorem dL_law_1133 : decode cL_law 1133 = .ok (.iadd, 1) := by decide +kernel
theorem dL_law_1134 : decode cL_law 1134 = .ok (.iaload, 1) := by decide +kernel
theorem dL_law_1135 : decode cL_law 1135 = .ok (.aload_n 0, 1) := by decide +kernel
theorem dL_law_1136 : decode cL_law 1136 = .ok (.iload_n 3, 1) := by decide +kernel
theorem dL_law_1137 : decode cL_law 1137 = .ok (.iconst 3, 1) := by decide +kernel
theorem dL_law_1138 : decode cL_law 1138 = .ok (.iadd, 1) := by decide +kernel
theorem dL_law_1139 : decode cL_law 1139 = .ok (.iaload, 1) := by decide +kernel
theorem dL_law_1140 : decode cL_law 1140 = .ok (.invokevirtual 123, 3) := by decide +kernel
theorem dL_law_1143 : decode cL_law 1143 = .ok (.if_icmp .eq 426, 3) := by decide +kernel
theorem dL_law_1146 : decode cL_law 1146 = .ok (.iconst 0, 1) := by decide +kernel
theorem dL_law_1147 : decode cL_law 1147 = .ok (.ireturn, 1) := by decide +kernel
theorem dL_law_1148 : decode cL_law 1148 = .ok (.aload_n 1, 1) := by decide +kernel
theorem dL_law_1149 : decode cL_law 1149 = .ok (.aload_n 0, 1) := by decide +kernel
theorem dL_law_1150 : decode cL_law 1150 = .ok (.iload_n 3, 1) := by decide +kernel
theorem dL_law_1151 : decode cL_law 1151 = .ok (.iconst 1, 1) := by decide +kernel
theorem dL_law_1152 : decode cL_law 1152 = .ok (.iadd, 1) := by decide +kernel
theorem dL_law_1153 : decode cL_law 1153 = .ok (.iaload, 1) := by decide +kernel
theorem dL_law_1154 : decode cL_law 1154 = .ok (.invokevirtual 124, 3) := by decide +kernel
theorem dL_law_1157 : decode cL_law 1157 = .ok (.aload_n 2, 1) := by decide +kernel
theorem dL_law_1158 : decode cL_law 1158 = .ok (.aload_n 0, 1) := by decide +kernel
theorem dL_law_1159 : decode cL_law 1159 = .ok (.iload_n 3, 1) := by decide +kernel
theorem dL_law_1160 : decode cL_law 1160 = .ok (.iconst 1, 1) := by decide +kernel
theorem dL_law_1161 : decode cL_law 1161 = .ok (.iadd, 1) := by decide +kernel
theorem dL_law_1162 : decode cL_law 1162 = .ok (.iaload, 1) := by decide +kernel
theorem dL_law_1163 : decode cL_law 1163 = .ok (.invokevirtual 127, 3) := by decide +kernel
theorem dL_law_1166 : decode cL_law 1166 = .ok (.if_icmp .eq 403, 3) := by decide +kernel
theorem dL_law_1169 : decode cL_law 1169 = .ok (.iconst 0, 1) := by decide +kernel
theorem dL_law_1170 : decode cL_law 1170 = .ok (.ireturn, 1) := by decide +kernel
theorem dL_law_1171 : decode cL_law 1171 = .ok (.aload_n 1, 1) := by decide +kernel
theorem dL_law_1172 : decode cL_law 1172 = .ok (.aload_n 0, 1) := by decide +kernel
theorem dL_law_1173 : decode cL_law 1173 = .ok (.iload_n 3, 1) := by decide +kernel
theorem dL_law_1174 : decode cL_law 1174 = .ok (.iconst 1, 1) := by decide +kernel
theorem dL_law_1175 : decode cL_law 1175 = .ok (.iadd, 1) := by decide +kernel
theorem dL_law_1176 : decode cL_law 1176 = .ok (.iaload, 1) := by decide +kernel
theorem dL_law_1177 : decode cL_law 1177 = .ok (.aload_n 0, 1) := by decide +kernel
theorem dL_law_1178 : decode cL_law 1178 = .ok (.iload_n 3, 1) := by decide +kernel
theorem dL_law_1179 : decode cL_law 1179 = .ok (.iconst 2, 1) := by decide +kernel
theorem dL_law_1180 : decode cL_law 1180 = .ok (.iadd, 1) := by decide +kernel
theorem dL_law_1181 : decode cL_law 1181 = .ok (.iaload, 1) := by decide +kernel
theorem dL_law_1182 : decode cL_law 1182 = .ok (.invokevirtual 128, 3) := by decide +kernel
theorem dL_law_1185 : decode cL_law 1185 = .ok (.aload_n 2, 1) := by decide +kernel
theorem dL_law_1186 : decode cL_law 1186 = .ok (.aload_n 0, 1) := by decide +kernel
theorem dL_law_1187 : decode cL_law 1187 = .ok (.iload_n 3, 1) := by decide +kernel
theorem dL_law_1188 : decode cL_law 1188 = .ok (.iconst 1, 1) := by decide +kernel
theorem dL_law_1189 : decode cL_law 1189 = .ok (.iadd, 1) := by decide +kernel
theorem dL_law_1190 : decode cL_law 1190 = .ok (.iaload, 1) := by decide +kernel
theorem dL_law_1191 : decode cL_law 1191 = .ok (.aload_n 0, 1) := by decide +kernel
theorem dL_law_1192 : decode cL_law 1192 = .ok (.iload_n 3, 1) := by decide +kernel
theorem dL_law_1193 : decode cL_law 1193 = .ok (.iconst 2, 1) := by decide +kernel
theorem dL_law_1194 : decode cL_law 1194 = .ok (.iadd, 1) := by decide +kernel
theorem dL_law_1195 : decode cL_law 1195 = .ok (.iaload, 1) := by decide +kernel
theorem dL_law_1196 : decode cL_law 1196 = .ok (.invokevirtual 131, 3) := by decide +kernel
theorem dL_law_1199 : decode cL_law 1199 = .ok (.if_icmp .eq 370, 3) := by decide +kernel
theorem dL_law_1202 : decode cL_law 1202 = .ok (.iconst 0, 1) := by decide +kernel
theorem dL_law_1203 : decode cL_law 1203 = .ok (.ireturn, 1) := by decide +kernel
theorem dL_law_1204 : decode cL_law 1204 = .ok (.aload_n 1, 1) := by decide +kernel
theorem dL_law_1205 : decode cL_law 1205 = .ok (.aload_n 0, 1) := by decide +kernel
theorem dL_law_1206 : decode cL_law 1206 = .ok (.iload_n 3, 1) := by decide +kernel
theorem dL_law_1207 : decode cL_law 1207 = .ok (.iconst 1, 1) := by decide +kernel
theorem dL_law_1208 : decode cL_law 1208 = .ok (.iadd, 1) := by decide +kernel
theorem dL_law_1209 : decode cL_law 1209 = .ok (.iaload, 1) := by decide +kernel
theorem dL_law_1210 : decode cL_law 1210 = .ok (.invokevirtual 132, 3) := by decide +kernel
theorem dL_law_1213 : decode cL_law 1213 = .ok (.aload_n 2, 1) := by decide +kernel
theorem dL_law_1214 : decode cL_law 1214 = .ok (.aload_n 0, 1) := by decide +kernel
theorem dL_law_1215 : decode cL_law 1215 = .ok (.iload_n 3, 1) := by decide +kernel
theorem dL_law_1216 : decode cL_law 1216 = .ok (.iconst 1, 1) := by decide +kernel
theorem dL_law_1217 : decode cL_law 1217 = .ok (.iadd, 1) := by decide +kernel
theorem dL_law_1218 : decode cL_law 1218 = .ok (.iaload, 1) := by decide +kernel
theorem dL_law_1219 : decode cL_law 1219 = .ok (.invokevirtual 135, 3) := by decide +kernel
theorem dL_law_1222 : decode cL_law 1222 = .ok (.if_icmp .eq 347, 3) := by decide +kernel
theorem dL_law_1225 : decode cL_law 1225 = .ok (.iconst 0, 1) := by decide +kernel
theorem dL_law_1226 : decode cL_law 1226 = .ok (.ireturn, 1) := by decide +kernel
theorem dL_law_1227 : decode cL_law 1227 = .ok (.aload_n 1, 1) := by decide +kernel
theorem dL_law_1228 : decode cL_law 1228 = .ok (.aload_n 0, 1) := by decide +kernel
theorem dL_law_1229 : decode cL_law 1229 = .ok (.iload_n 3, 1) := by decide +kernel
theorem dL_law_1230 : decode cL_law 1230 = .ok (.iconst 1, 1) := by decide +kernel
theorem dL_law_1231 : decode cL_law 1231 = .ok (.iadd, 1) := by decide +kernel
theorem dL_law_1232 : decode cL_law 1232 = .ok (.iaload, 1) := by decide +kernel
theorem dL_law_1233 : decode cL_law 1233 = .ok (.aload_n 0, 1) := by decide +kernel
theorem dL_law_1234 : decode cL_law 1234 = .ok (.iload_n 3, 1) := by decide +kernel
theorem dL_law_1235 : decode cL_law 1235 = .ok (.iconst 2, 1) := by decide +kernel
theorem dL_law_1236 : decode cL_law 1236 = .ok (.iadd, 1) := by decide +kernel
theorem dL_law_1237 : decode cL_law 1237 = .ok (.iaload, 1) := by decide +kernel
theorem dL_law_1238 : decode cL_law 1238 = .ok (.aload_n 0, 1) := by decide +kernel
theorem dL_law_1239 : decode cL_law 1239 = .ok (.iload_n 3, 1) := by decide +kernel
theorem dL_law_1240 : decode cL_law 1240 = .ok (.iconst 3, 1) := by decide +kernel
theorem dL_law_1241 : decode cL_law 1241 = .ok (.iadd, 1) := by decide +kernel
theorem dL_law_1242 : decode cL_law 1242 = .ok (.iaload, 1) := by decide +kernel
theorem dL_law_1243 : decode cL_law 1243 = .ok (.aload_n 0, 1) := by decide +kernel
theorem dL_law_1244 : decode cL_law 1244 = .ok (.iload_n 3, 1) := by decide +kernel
theorem dL_law_1245 : decode cL_law 1245 = .ok (.iconst 4, 1) := by decide +kernel
theorem dL_law_1246 : decode cL_law 1246 = .ok (.iadd, 1) := by decide +kernel
theorem dL_law_1247 : decode cL_law 1247 = .ok (.iaload, 1) := by decide +kernel
theorem dL_law_1248 : decode cL_law 1248 = .ok (.aload_n 0, 1) := by decide +kernel
theorem dL_law_1249 : decode cL_law 1249 = .ok (.iload_n 3, 1) := by decide +kernel
theorem dL_law_1250 : decode cL_law 1250 = .ok (.iconst 5, 1) := by decide +kernel
theorem dL_law_1251 : decode cL_law 1251 = .ok (.iadd, 1) := by decide +kernel
theorem dL_law_1252 : decode cL_law 1252 = .ok (.iaload, 1) := by decide +kernel
theorem dL_law_1253 : decode cL_law 1253 = .ok (.aload_n 0, 1) := by decide +kernel
theorem dL_law_1254 : decode cL_law 1254 = .ok (.iload_n 3, 1) := by decide +kernel
theorem dL_law_1255 : decode cL_law 1255 = .ok (.bipush 6, 2) := by decide +kernel
theorem dL_law_1257 : decode cL_law 1257 = .ok (.iadd, 1) := by decide +kernel
theorem dL_law_1258 : decode cL_law 1258 = .ok (.iaload, 1) := by decide +kernel
theorem dL_law_1259 : decode cL_law 1259 = .ok (.invokevirtual 136, 3) := by decide +kernel
theorem dL_law_1262 : decode cL_law 1262 = .ok (.aload_n 2, 1) := by decide +kernel
theorem dL_law_1263 : decode cL_law 1263 = .ok (.aload_n 0, 1) := by decide +kernel
theorem dL_law_1264 : decode cL_law 1264 = .ok (.iload_n 3, 1) := by decide +kernel
theorem dL_law_1265 : decode cL_law 1265 = .ok (.iconst 1, 1) := by decide +kernel
theorem dL_law_1266 : decode cL_law 1266 = .ok (.iadd, 1) := by decide +kernel
theorem dL_law_1267 : decode cL_law 1267 = .ok (.iaload, 1) := by decide +kernel
theorem dL_law_1268 : decode cL_law 1268 = .ok (.aload_n 0, 1) := by decide +kernel
theorem dL_law_1269 : decode cL_law 1269 = .ok (.iload_n 3, 1) := by decide +kernel
theorem dL_law_1270 : decode cL_law 1270 = .ok (.iconst 2, 1) := by decide +kernel
theorem dL_law_1271 : decode cL_law 1271 = .ok (.iadd, 1) := by decide +kernel
theorem dL_law_1272 : decode cL_law 1272 = .ok (.iaload, 1) := by decide +kernel
theorem dL_law_1273 : decode cL_law 1273 = .ok (.aload_n 0, 1) := by decide +kernel
theorem dL_law_1274 : decode cL_law 1274 = .ok (.iload_n 3, 1) := by decide +kernel
theorem dL_law_1275 : decode cL_law 1275 = .ok (.iconst 3, 1) := by decide +kernel
theorem dL_law_1276 : decode cL_law 1276 = .ok (.iadd, 1) := by decide +kernel
theorem dL_law_1277 : decode cL_law 1277 = .ok (.iaload, 1) := by decide +kernel
theorem dL_law_1278 : decode cL_law 1278 = .ok (.aload_n 0, 1) := by decide +kernel
theorem dL_law_1279 : decode cL_law 1279 = .ok (.iload_n 3, 1) := by decide +kernel
theorem dL_law_1280 : decode cL_law 1280 = .ok (.iconst 4, 1) := by decide +kernel
theorem dL_law_1281 : decode cL_law 1281 = .ok (.iadd, 1) := by decide +kernel
theorem dL_law_1282 : decode cL_law 1282 = .ok (.iaload, 1) := by decide +kernel
theorem dL_law_1283 : decode cL_law 1283 = .ok (.aload_n 0, 1) := by decide +kernel
theorem dL_law_1284 : decode cL_law 1284 = .ok (.iload_n 3, 1) := by decide +kernel
theorem dL_law_1285 : decode cL_law 1285 = .ok (.iconst 5, 1) := by decide +kernel
theorem dL_law_1286 : decode cL_law 1286 = .ok (.iadd, 1) := by decide +kernel
theorem dL_law_1287 : decode cL_law 1287 = .ok (.iaload, 1) := by decide +kernel
theorem dL_law_1288 : decode cL_law 1288 = .ok (.aload_n 0, 1) := by decide +kernel
theorem dL_law_1289 : decode cL_law 1289 = .ok (.iload_n 3, 1) := by decide +kernel
theorem dL_law_1290 : decode cL_law 1290 = .ok (.bipush 6, 2) := by decide +kernel
theorem dL_law_1292 : decode cL_law 1292 = .ok (.iadd, 1) := by decide +kernel
theorem dL_law_1293 : decode cL_law 1293 = .ok (.iaload, 1) := by decide +kernel
theorem dL_law_1294 : decode cL_law 1294 = .ok (.invokevirtual 140, 3) := by decide +kernel
theorem dL_law_1297 : decode cL_law 1297 = .ok (.if_icmp .eq 272, 3) := by decide +kernel
theorem dL_law_1300 : decode cL_law 1300 = .ok (.iconst 0, 1) := by decide +kernel
theorem dL_law_1301 : decode cL_law 1301 = .ok (.ireturn, 1) := by decide +kernel
theorem dL_law_1302 : decode cL_law 1302 = .ok (.aload_n 1, 1) := by decide +kernel
theorem dL_law_1303 : decode cL_law 1303 = .ok (.aload_n 0, 1) := by decide +kernel
theorem dL_law_1304 : decode cL_law 1304 = .ok (.iload_n 3, 1) := by decide +kernel
theorem dL_law_1305 : decode cL_law 1305 = .ok (.iconst 1, 1) := by decide +kernel
theorem dL_law_1306 : decode cL_law 1306 = .ok (.iadd, 1) := by decide +kernel
theorem dL_law_1307 : decode cL_law 1307 = .ok (.iaload, 1) := by decide +kernel
theorem dL_law_1308 : decode cL_law 1308 = .ok (.invokevirtual 141, 3) := by decide +kernel
theorem dL_law_1311 : decode cL_law 1311 = .ok (.aload_n 2, 1) := by decide +kernel
theorem dL_law_1312 : decode cL_law 1312 = .ok (.aload_n 0, 1) := by decide +kernel
theorem dL_law_1313 : decode cL_law 1313 = .ok (.iload_n 3, 1) := by decide +kernel
theorem dL_law_1314 : decode cL_law 1314 = .ok (.iconst 1, 1) := by decide +kernel
theorem dL_law_1315 : decode cL_law 1315 = .ok (.iadd, 1) := by decide +kernel
theorem dL_law_1316 : decode cL_law 1316 = .ok (.iaload, 1) := by decide +kernel
theorem dL_law_1317 : decode cL_law 1317 = .ok (.invokevirtual 144, 3) := by decide +kernel
theorem dL_law_1320 : decode cL_law 1320 = .ok (.if_icmp .eq 249, 3) := by decide +kernel
theorem dL_law_1323 : decode cL_law 1323 = .ok (.iconst 0, 1) := by decide +kernel
theorem dL_law_1324 : decode cL_law 1324 = .ok (.ireturn, 1) := by decide +kernel
theorem dL_law_1325 : decode cL_law 1325 = .ok (.aload_n 1, 1) := by decide +kernel
theorem dL_law_1326 : decode cL_law 1326 = .ok (.aload_n 0, 1) := by decide +kernel
theorem dL_law_1327 : decode cL_law 1327 = .ok (.iload_n 3, 1) := by decide +kernel
theorem dL_law_1328 : decode cL_law 1328 = .ok (.iconst 1, 1) := by decide +kernel
theorem dL_law_1329 : decode cL_law 1329 = .ok (.iadd, 1) := by decide +kernel
theorem dL_law_1330 : decode cL_law 1330 = .ok (.iaload, 1) := by decide +kernel
theorem dL_law_1331 : decode cL_law 1331 = .ok (.aload_n 0, 1) := by decide +kernel
theorem dL_law_1332 : decode cL_law 1332 = .ok (.iload_n 3, 1) := by decide +kernel
theorem dL_law_1333 : decode cL_law 1333 = .ok (.iconst 2, 1) := by decide +kernel
theorem dL_law_1334 : decode cL_law 1334 = .ok (.iadd, 1) := by decide +kernel
theorem dL_law_1335 : decode cL_law 1335 = .ok (.iaload, 1) := by decide +kernel
theorem dL_law_1336 : decode cL_law 1336 = .ok (.invokevirtual 145, 3) := by decide +kernel
theorem dL_law_1339 : decode cL_law 1339 = .ok (.aload_n 2, 1) := by decide +kernel
theorem dL_law_1340 : decode cL_law 1340 = .ok (.aload_n 0, 1) := by decide +kernel
theorem dL_law_1341 : decode cL_law 1341 = .ok (.iload_n 3, 1) := by decide +kernel
theorem dL_law_1342 : decode cL_law 1342 = .ok (.iconst 1, 1) := by decide +kernel
theorem dL_law_1343 : decode cL_law 1343 = .ok (.iadd, 1) := by decide +kernel
theorem dL_law_1344 : decode cL_law 1344 = .ok (.iaload, 1) := by decide +kernel
theorem dL_law_1345 : decode cL_law 1345 = .ok (.aload_n 0, 1) := by decide +kernel
theorem dL_law_1346 : decode cL_law 1346 = .ok (.iload_n 3, 1) := by decide +kernel
theorem dL_law_1347 : decode cL_law 1347 = .ok (.iconst 2, 1) := by decide +kernel
theorem dL_law_1348 : decode cL_law 1348 = .ok (.iadd, 1) := by decide +kernel
theorem dL_law_1349 : decode cL_law 1349 = .ok (.iaload, 1) := by decide +kernel
theorem dL_law_1350 : decode cL_law 1350 = .ok (.invokevirtual 148, 3) := by decide +kernel
theorem dL_law_1353 : decode cL_law 1353 = .ok (.if_icmp .eq 216, 3) := by decide +kernel
theorem dL_law_1356 : decode cL_law 1356 = .ok (.iconst 0, 1) := by decide +kernel
theorem dL_law_1357 : decode cL_law 1357 = .ok (.ireturn, 1) := by decide +kernel
theorem dL_law_1358 : decode cL_law 1358 = .ok (.aload_n 1, 1) := by decide +kernel
theorem dL_law_1359 : decode cL_law 1359 = .ok (.aload_n 0, 1) := by decide +kernel
theorem dL_law_1360 : decode cL_law 1360 = .ok (.iload_n 3, 1) := by decide +kernel
theorem dL_law_1361 : decode cL_law 1361 = .ok (.iconst 1, 1) := by decide +kernel
theorem dL_law_1362 : decode cL_law 1362 = .ok (.iadd, 1) := by decide +kernel
theorem dL_law_1363 : decode cL_law 1363 = .ok (.iaload, 1) := by decide +kernel
theorem dL_law_1364 : decode cL_law 1364 = .ok (.aload_n 0, 1) := by decide +kernel
theorem dL_law_1365 : decode cL_law 1365 = .ok (.iload_n 3, 1) := by decide +kernel
theorem dL_law_1366 : decode cL_law 1366 = .ok (.iconst 2, 1) := by decide +kernel
theorem dL_law_1367 : decode cL_law 1367 = .ok (.iadd, 1) := by decide +kernel
theorem dL_law_1368 : decode cL_law 1368 = .ok (.iaload, 1) := by decide +kernel
theorem dL_law_1369 : decode cL_law 1369 = .ok (.invokevirtual 149, 3) := by decide +kernel
theorem dL_law_1372 : decode cL_law 1372 = .ok (.aload_n 2, 1) := by decide +kernel
theorem dL_law_1373 : decode cL_law 1373 = .ok (.aload_n 0, 1) := by decide +kernel
theorem dL_law_1374 : decode cL_law 1374 = .ok (.iload_n 3, 1) := by decide +kernel
theorem dL_law_1375 : decode cL_law 1375 = .ok (.iconst 1, 1) := by decide +kernel
theorem dL_law_1376 : decode cL_law 1376 = .ok (.iadd, 1) := by decide +kernel
theorem dL_law_1377 : decode cL_law 1377 = .ok (.iaload, 1) := by decide +kernel
theorem dL_law_1378 : decode cL_law 1378 = .ok (.aload_n 0, 1) := by decide +kernel
theorem dL_law_1379 : decode cL_law 1379 = .ok (.iload_n 3, 1) := by decide +kernel
theorem dL_law_1380 : decode cL_law 1380 = .ok (.iconst 2, 1) := by decide +kernel
theorem dL_law_1381 : decode cL_law 1381 = .ok (.iadd, 1) := by decide +kernel
theorem dL_law_1382 : decode cL_law 1382 = .ok (.iaload, 1) := by decide +kernel
theorem dL_law_1383 : decode cL_law 1383 = .ok (.invokevirtual 152, 3) := by decide +kernel
theorem dL_law_1386 : decode cL_law 1386 = .ok (.if_icmp .eq 183, 3) := by decide +kernel
theorem dL_law_1389 : decode cL_law 1389 = .ok (.iconst 0, 1) := by decide +kernel
theorem dL_law_1390 : decode cL_law 1390 = .ok (.ireturn, 1) := by decide +kernel
theorem dL_law_1391 : decode cL_law 1391 = .ok (.aload_n 1, 1) := by decide +kernel
theorem dL_law_1392 : decode cL_law 1392 = .ok (.aload_n 0, 1) := by decide +kernel
theorem dL_law_1393 : decode cL_law 1393 = .ok (.iload_n 3, 1) := by decide +kernel
theorem dL_law_1394 : decode cL_law 1394 = .ok (.iconst 1, 1) := by decide +kernel
theorem dL_law_1395 : decode cL_law 1395 = .ok (.iadd, 1) := by decide +kernel
theorem dL_law_1396 : decode cL_law 1396 = .ok (.iaload, 1) := by decide +kernel
theorem dL_law_1397 : decode cL_law 1397 = .ok (.invokevirtual 153, 3) := by decide +kernel
theorem dL_law_1400 : decode cL_law 1400 = .ok (.aload_n 2, 1) := by decide +kernel
theorem dL_law_1401 : decode cL_law 1401 = .ok (.aload_n 0, 1) := by decide +kernel
theorem dL_law_1402 : decode cL_law 1402 = .ok (.iload_n 3, 1) := by decide +kernel
theorem dL_law_1403 : decode cL_law 1403 = .ok (.iconst 1, 1) := by decide +kernel
theorem dL_law_1404 : decode cL_law 1404 = .ok (.iadd, 1) := by decide +kernel
theorem dL_law_1405 : decode cL_law 1405 = .ok (.iaload, 1) := by decide +kernel
theorem dL_law_1406 : decode cL_law 1406 = .ok (.invokevirtual 156, 3) := by decide +kernel
theorem dL_law_1409 : decode cL_law 1409 = .ok (.if_icmp .eq 160, 3) := by decide +kernel
theorem dL_law_1412 : decode cL_law 1412 = .ok (.iconst 0, 1) := by decide +kernel
theorem dL_law_1413 : decode cL_law 1413 = .ok (.ireturn, 1) := by decide +kernel
theorem dL_law_1414 : decode cL_law 1414 = .ok (.aload_n 1, 1) := by decide +kernel
theorem dL_law_1415 : decode cL_law 1415 = .ok (.aload_n 0, 1) := by decide +kernel
theorem dL_law_1416 : decode cL_law 1416 = .ok (.iload_n 3, 1) := by decide +kernel
theorem dL_law_1417 : decode cL_law 1417 = .ok (.iconst 1, 1) := by decide +kernel
theorem dL_law_1418 : decode cL_law 1418 = .ok (.iadd, 1) := by decide +kernel
theorem dL_law_1419 : decode cL_law 1419 = .ok (.iaload, 1) := by decide +kernel
theorem dL_law_1420 : decode cL_law 1420 = .ok (.aload_n 0, 1) := by decide +kernel
theorem dL_law_1421 : decode cL_law 1421 = .ok (.iload_n 3, 1) := by decide +kernel
theorem dL_law_1422 : decode cL_law 1422 = .ok (.iconst 2, 1) := by decide +kernel
theorem dL_law_1423 : decode cL_law 1423 = .ok (.iadd, 1) := by decide +kernel
theorem dL_law_1424 : decode cL_law 1424 = .ok (.iaload, 1) := by decide +kernel
theorem dL_law_1425 : decode cL_law 1425 = .ok (.invokevirtual 157, 3) := by decide +kernel
theorem dL_law_1428 : decode cL_law 1428 = .ok (.aload_n 2, 1) := by decide +kernel
theorem dL_law_1429 : decode cL_law 1429 = .ok (.aload_n 0, 1) := by decide +kernel
theorem dL_law_1430 : decode cL_law 1430 = .ok (.iload_n 3, 1) := by decide +kernel
theorem dL_law_1431 : decode cL_law 1431 = .ok (.iconst 1, 1) := by decide +kernel
theorem dL_law_1432 : decode cL_law 1432 = .ok (.iadd, 1) := by decide +kernel
theorem dL_law_1433 : decode cL_law 1433 = .ok (.iaload, 1) := by decide +kernel
theorem dL_law_1434 : decode cL_law 1434 = .ok (.aload_n 0, 1) := by decide +kernel
theorem dL_law_1435 : decode cL_law 1435 = .ok (.iload_n 3, 1) := by decide +kernel
theorem dL_law_1436 : decode cL_law 1436 = .ok (.iconst 2, 1) := by decide +kernel
theorem dL_law_1437 : decode cL_law 1437 = .ok (.iadd, 1) := by decide +kernel
theorem dL_law_1438 : decode cL_law 1438 = .ok (.iaload, 1) := by decide +kernel
theorem dL_law_1439 : decode cL_law 1439 = .ok (.invokevirtual 160, 3) := by decide +kernel
theorem dL_law_1442 : decode cL_law 1442 = .ok (.if_icmp .eq 127, 3) := by decide +kernel
theorem dL_law_1445 : decode cL_law 1445 = .ok (.iconst 0, 1) := by decide +kernel
theorem dL_law_1446 : decode cL_law 1446 = .ok (.ireturn, 1) := by decide +kernel
theorem dL_law_1447 : decode cL_law 1447 = .ok (.aload_n 1, 1) := by decide +kernel
theorem dL_law_1448 : decode cL_law 1448 = .ok (.aload_n 0, 1) := by decide +kernel
theorem dL_law_1449 : decode cL_law 1449 = .ok (.iload_n 3, 1) := by decide +kernel
theorem dL_law_1450 : decode cL_law 1450 = .ok (.iconst 1, 1) := by decide +kernel
theorem dL_law_1451 : decode cL_law 1451 = .ok (.iadd, 1) := by decide +kernel
theorem dL_law_1452 : decode cL_law 1452 = .ok (.iaload, 1) := by decide +kernel
theorem dL_law_1453 : decode cL_law 1453 = .ok (.invokevirtual 161, 3) := by decide +kernel
theorem dL_law_1456 : decode cL_law 1456 = .ok (.aload_n 2, 1) := by decide +kernel
theorem dL_law_1457 : decode cL_law 1457 = .ok (.aload_n 0, 1) := by decide +kernel
theorem dL_law_1458 : decode cL_law 1458 = .ok (.iload_n 3, 1) := by decide +kernel
theorem dL_law_1459 : decode cL_law 1459 = .ok (.iconst 1, 1) := by decide +kernel
theorem dL_law_1460 : decode cL_law 1460 = .ok (.iadd, 1) := by decide +kernel
theorem dL_law_1461 : decode cL_law 1461 = .ok (.iaload, 1) := by decide +kernel
theorem dL_law_1462 : decode cL_law 1462 = .ok (.invokevirtual 164, 3) := by decide +kernel
theorem dL_law_1465 : decode cL_law 1465 = .ok (.if_icmp .eq 104, 3) := by decide +kernel
theorem dL_law_1468 : decode cL_law 1468 = .ok (.iconst 0, 1) := by decide +kernel
theorem dL_law_1469 : decode cL_law 1469 = .ok (.ireturn, 1) := by decide +kernel
theorem dL_law_1470 : decode cL_law 1470 = .ok (.aload_n 1, 1) := by decide +kernel
theorem dL_law_1471 : decode cL_law 1471 = .ok (.aload_n 0, 1) := by decide +kernel
theorem dL_law_1472 : decode cL_law 1472 = .ok (.iload_n 3, 1) := by decide +kernel
theorem dL_law_1473 : decode cL_law 1473 = .ok (.iconst 1, 1) := by decide +kernel
theorem dL_law_1474 : decode cL_law 1474 = .ok (.iadd, 1) := by decide +kernel
theorem dL_law_1475 : decode cL_law 1475 = .ok (.iaload, 1) := by decide +kernel
theorem dL_law_1476 : decode cL_law 1476 = .ok (.aload_n 0, 1) := by decide +kernel
theorem dL_law_1477 : decode cL_law 1477 = .ok (.iload_n 3, 1) := by decide +kernel
theorem dL_law_1478 : decode cL_law 1478 = .ok (.iconst 2, 1) := by decide +kernel
theorem dL_law_1479 : decode cL_law 1479 = .ok (.iadd, 1) := by decide +kernel
theorem dL_law_1480 : decode cL_law 1480 = .ok (.iaload, 1) := by decide +kernel
theorem dL_law_1481 : decode cL_law 1481 = .ok (.invokevirtual 165, 3) := by decide +kernel
theorem dL_law_1484 : decode cL_law 1484 = .ok (.aload_n 2, 1) := by decide +kernel
theorem dL_law_1485 : decode cL_law 1485 = .ok (.aload_n 0, 1) := by decide +kernel
theorem dL_law_1486 : decode cL_law 1486 = .ok (.iload_n 3, 1) := by decide +kernel
theorem dL_law_1487 : decode cL_law 1487 = .ok (.iconst 1, 1) := by decide +kernel
theorem dL_law_1488 : decode cL_law 1488 = .ok (.iadd, 1) := by decide +kernel
theorem dL_law_1489 : decode cL_law 1489 = .ok (.iaload, 1) := by decide +kernel
theorem dL_law_1490 : decode cL_law 1490 = .ok (.aload_n 0, 1) := by decide +kernel
theorem dL_law_1491 : decode cL_law 1491 = .ok (.iload_n 3, 1) := by decide +kernel
theorem dL_law_1492 : decode cL_law 1492 = .ok (.iconst 2, 1) := by decide +kernel
theorem dL_law_1493 : decode cL_law 1493 = .ok (.iadd, 1) := by decide +kernel
theorem dL_law_1494 : decode cL_law 1494 = .ok (.iaload, 1) := by decide +kernel
theorem dL_law_1495 : decode cL_law 1495 = .ok (.invokevirtual 168, 3) := by decide +kernel
theorem dL_law_1498 : decode cL_law 1498 = .ok (.if_icmp .eq 71, 3) := by decide +kernel
theorem dL_law_1501 : decode cL_law 1501 = .ok (.iconst 0, 1) := by decide +kernel
theorem dL_law_1502 : decode cL_law 1502 = .ok (.ireturn, 1) := by decide +kernel
theorem dL_law_1503 : decode cL_law 1503 = .ok (.aload_n 1, 1) := by decide +kernel
theorem dL_law_1504 : decode cL_law 1504 = .ok (.aload_n 0, 1) := by decide +kernel
theorem dL_law_1505 : decode cL_law 1505 = .ok (.iload_n 3, 1) := by decide +kernel
theorem dL_law_1506 : decode cL_law 1506 = .ok (.iconst 1, 1) := by decide +kernel
theorem dL_law_1507 : decode cL_law 1507 = .ok (.iadd, 1) := by decide +kernel
theorem dL_law_1508 : decode cL_law 1508 = .ok (.iaload, 1) := by decide +kernel
theorem dL_law_1509 : decode cL_law 1509 = .ok (.aload_n 0, 1) := by decide +kernel
theorem dL_law_1510 : decode cL_law 1510 = .ok (.iload_n 3, 1) := by decide +kernel
theorem dL_law_1511 : decode cL_law 1511 = .ok (.iconst 2, 1) := by decide +kernel
theorem dL_law_1512 : decode cL_law 1512 = .ok (.iadd, 1) := by decide +kernel
theorem dL_law_1513 : decode cL_law 1513 = .ok (.iaload, 1) := by decide +kernel
theorem dL_law_1514 : decode cL_law 1514 = .ok (.invokevirtual 169, 3) := by decide +kernel
theorem dL_law_1517 : decode cL_law 1517 = .ok (.aload_n 2, 1) := by decide +kernel
theorem dL_law_1518 : decode cL_law 1518 = .ok (.aload_n 0, 1) := by decide +kernel
theorem dL_law_1519 : decode cL_law 1519 = .ok (.iload_n 3, 1) := by decide +kernel
theorem dL_law_1520 : decode cL_law 1520 = .ok (.iconst 1, 1) := by decide +kernel
theorem dL_law_1521 : decode cL_law 1521 = .ok (.iadd, 1) := by decide +kernel
theorem dL_law_1522 : decode cL_law 1522 = .ok (.iaload, 1) := by decide +kernel
theorem dL_law_1523 : decode cL_law 1523 = .ok (.aload_n 0, 1) := by decide +kernel
theorem dL_law_1524 : decode cL_law 1524 = .ok (.iload_n 3, 1) := by decide +kernel
theorem dL_law_1525 : decode cL_law 1525 = .ok (.iconst 2, 1) := by decide +kernel
theorem dL_law_1526 : decode cL_law 1526 = .ok (.iadd, 1) := by decide +kernel
theorem dL_law_1527 : decode cL_law 1527 = .ok (.iaload, 1) := by decide +kernel
theorem dL_law_1528 : decode cL_law 1528 = .ok (.invokevirtual 172, 3) := by decide +kernel
theorem dL_law_1531 : decode cL_law 1531 = .ok (.if_icmp .eq 38, 3) := by decide +kernel
theorem dL_law_1534 : decode cL_law 1534 = .ok (.iconst 0, 1) := by decide +kernel
theorem dL_law_1535 : decode cL_law 1535 = .ok (.ireturn, 1) := by decide +kernel
theorem dL_law_1536 : decode cL_law 1536 = .ok (.aload_n 1, 1) := by decide +kernel
theorem dL_law_1537 : decode cL_law 1537 = .ok (.aload_n 0, 1) := by decide +kernel
theorem dL_law_1538 : decode cL_law 1538 = .ok (.iload_n 3, 1) := by decide +kernel
theorem dL_law_1539 : decode cL_law 1539 = .ok (.iconst 1, 1) := by decide +kernel
theorem dL_law_1540 : decode cL_law 1540 = .ok (.iadd, 1) := by decide +kernel
theorem dL_law_1541 : decode cL_law 1541 = .ok (.iaload, 1) := by decide +kernel
theorem dL_law_1542 : decode cL_law 1542 = .ok (.aload_n 0, 1) := by decide +kernel
theorem dL_law_1543 : decode cL_law 1543 = .ok (.iload_n 3, 1) := by decide +kernel
theorem dL_law_1544 : decode cL_law 1544 = .ok (.iconst 2, 1) := by decide +kernel
theorem dL_law_1545 : decode cL_law 1545 = .ok (.iadd, 1) := by decide +kernel
theorem dL_law_1546 : decode cL_law 1546 = .ok (.iaload, 1) := by decide +kernel
theorem dL_law_1547 : decode cL_law 1547 = .ok (.invokevirtual 173, 3) := by decide +kernel
theorem dL_law_1550 : decode cL_law 1550 = .ok (.aload_n 2, 1) := by decide +kernel
theorem dL_law_1551 : decode cL_law 1551 = .ok (.aload_n 0, 1) := by decide +kernel
theorem dL_law_1552 : decode cL_law 1552 = .ok (.iload_n 3, 1) := by decide +kernel
theorem dL_law_1553 : decode cL_law 1553 = .ok (.iconst 1, 1) := by decide +kernel
theorem dL_law_1554 : decode cL_law 1554 = .ok (.iadd, 1) := by decide +kernel
theorem dL_law_1555 : decode cL_law 1555 = .ok (.iaload, 1) := by decide +kernel
theorem dL_law_1556 : decode cL_law 1556 = .ok (.aload_n 0, 1) := by decide +kernel
theorem dL_law_1557 : decode cL_law 1557 = .ok (.iload_n 3, 1) := by decide +kernel
theorem dL_law_1558 : decode cL_law 1558 = .ok (.iconst 2, 1) := by decide +kernel
theorem dL_law_1559 : decode cL_law 1559 = .ok (.iadd, 1) := by decide +kernel
theorem dL_law_1560 : decode cL_law 1560 = .ok (.iaload, 1) := by decide +kernel
theorem dL_law_1561 : decode cL_law 1561 = .ok (.invokevirtual 176, 3) := by decide +kernel
theorem dL_law_1564 : decode cL_law 1564 = .ok (.if_icmp .eq 5, 3) := by decide +kernel
theorem dL_law_1567 : decode cL_law 1567 = .ok (.iconst 0, 1) := by decide +kernel
theorem dL_law_1568 : decode cL_law 1568 = .ok (.ireturn, 1) := by decide +kernel
theorem dL_law_1569 : decode cL_law 1569 = .ok (.iinc 3 7, 3) := by decide +kernel
theorem dL_law_1572 : decode cL_law 1572 = .ok (.goto (-1554), 3) := by decide +kernel
theorem dL_law_1575 : decode cL_law 1575 = .ok (.iconst 1, 1) := by decide +kernel
theorem dL_law_1576 : decode cL_law 1576 = .ok (.ireturn, 1) := by decide +kernel
