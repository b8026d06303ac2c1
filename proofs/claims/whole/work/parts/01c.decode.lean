theorem dX6_operationOf_1 : decode cX6_operationOf 1 = .ok (.lookupswitch 121 #[(42, 115), (43, 109), (45, 112), (47, 118), (60, 97), (128, 100), (129, 103), (130, 106), (225, 94), (226, 91)], 91) := by decide +kernel
theorem dX6_operationOf_92 : decode cX6_operationOf 92 = .ok (.bipush 20, 2) := by decide +kernel
theorem dX6_operationOf_94 : decode cX6_operationOf 94 = .ok (.ireturn, 1) := by decide +kernel
theorem dX6_operationOf_95 : decode cX6_operationOf 95 = .ok (.bipush 19, 2) := by decide +kernel
theorem dX6_operationOf_97 : decode cX6_operationOf 97 = .ok (.ireturn, 1) := by decide +kernel
theorem dX6_operationOf_98 : decode cX6_operationOf 98 = .ok (.bipush 15, 2) := by decide +kernel
theorem dX6_operationOf_100 : decode cX6_operationOf 100 = .ok (.ireturn, 1) := by decide +kernel
theorem dX6_operationOf_101 : decode cX6_operationOf 101 = .ok (.bipush 16, 2) := by decide +kernel
theorem dX6_operationOf_103 : decode cX6_operationOf 103 = .ok (.ireturn, 1) := by decide +kernel
theorem dX6_operationOf_104 : decode cX6_operationOf 104 = .ok (.bipush 17, 2) := by decide +kernel
theorem dX6_operationOf_106 : decode cX6_operationOf 106 = .ok (.ireturn, 1) := by decide +kernel
theorem dX6_operationOf_107 : decode cX6_operationOf 107 = .ok (.bipush 18, 2) := by decide +kernel
theorem dX6_operationOf_109 : decode cX6_operationOf 109 = .ok (.ireturn, 1) := by decide +kernel
theorem dX6_operationOf_110 : decode cX6_operationOf 110 = .ok (.bipush 10, 2) := by decide +kernel
theorem dX6_operationOf_112 : decode cX6_operationOf 112 = .ok (.ireturn, 1) := by decide +kernel
theorem dX6_operationOf_113 : decode cX6_operationOf 113 = .ok (.bipush 11, 2) := by decide +kernel
theorem dX6_operationOf_115 : decode cX6_operationOf 115 = .ok (.ireturn, 1) := by decide +kernel
theorem dX6_operationOf_116 : decode cX6_operationOf 116 = .ok (.bipush 12, 2) := by decide +kernel
theorem dX6_operationOf_118 : decode cX6_operationOf 118 = .ok (.ireturn, 1) := by decide +kernel
theorem dX6_operationOf_119 : decode cX6_operationOf 119 = .ok (.bipush 13, 2) := by decide +kernel
theorem dX6_operationOf_121 : decode cX6_operationOf 121 = .ok (.ireturn, 1) := by decide +kernel
theorem dX6_operationOf_122 : decode cX6_operationOf 122 = .ok (.bipush 14, 2) := by decide +kernel
theorem dX6_operationOf_124 : decode cX6_operationOf 124 = .ok (.ireturn, 1) := by decide +kernel
theorem dX6_readUse_0 : decode cX6_readUse 0 = .ok (.aload_n 0, 1) := by decide +kernel
theorem dX6_readUse_1 : decode cX6_readUse 1 = .ok (.getfield 69, 3) := by decide +kernel
theorem dX6_readUse_4 : decode cX6_readUse 4 = .ok (.sipush 1499, 3) := by decide +kernel
theorem dX6_readUse_7 : decode cX6_readUse 7 = .ok (.invokestatic 319, 3) := by decide +kernel
theorem dX6_readUse_10 : decode cX6_readUse 10 = .ok (.istore_n 1, 1) := by decide +kernel
theorem dX6_readUse_11 : decode cX6_readUse 11 = .ok (.aload_n 0, 1) := by decide +kernel
theorem dX6_readUse_12 : decode cX6_readUse 12 = .ok (.iload_n 1, 1) := by decide +kernel
theorem dX6_readUse_13 : decode cX6_readUse 13 = .ok (.iconst 1, 1) := by decide +kernel
theorem dX6_readUse_14 : decode cX6_readUse 14 = .ok (.iadd, 1) := by decide +kernel
theorem dX6_readUse_15 : decode cX6_readUse 15 = .ok (.putfield 69, 3) := by decide +kernel
theorem dX6_readUse_18 : decode cX6_readUse 18 = .ok (.aload_n 0, 1) := by decide +kernel
theorem dX6_readUse_19 : decode cX6_readUse 19 = .ok (.getfield 38, 3) := by decide +kernel
theorem dX6_readUse_22 : decode cX6_readUse 22 = .ok (.iconst 0, 1) := by decide +kernel
theorem dX6_readUse_23 : decode cX6_readUse 23 = .ok (.aaload, 1) := by decide +kernel
theorem dX6_readUse_24 : decode cX6_readUse 24 = .ok (.iload_n 1, 1) := by decide +kernel
theorem dX6_readUse_25 : decode cX6_readUse 25 = .ok (.iconst 0, 1) := by decide +kernel
theorem dX6_readUse_26 : decode cX6_readUse 26 = .ok (.iastore, 1) := by decide +kernel
theorem dX6_readUse_27 : decode cX6_readUse 27 = .ok (.aload_n 0, 1) := by decide +kernel
theorem dX6_readUse_28 : decode cX6_readUse 28 = .ok (.getfield 38, 3) := by decide +kernel
theorem dX6_readUse_31 : decode cX6_readUse 31 = .ok (.iconst 3, 1) := by decide +kernel
theorem dX6_readUse_32 : decode cX6_readUse 32 = .ok (.aaload, 1) := by decide +kernel
theorem dX6_readUse_33 : decode cX6_readUse 33 = .ok (.iload_n 1, 1) := by decide +kernel
theorem dX6_readUse_34 : decode cX6_readUse 34 = .ok (.aload_n 0, 1) := by decide +kernel
theorem dX6_readUse_35 : decode cX6_readUse 35 = .ok (.getfield 49, 3) := by decide +kernel
theorem dX6_readUse_38 : decode cX6_readUse 38 = .ok (.invokevirtual 94, 3) := by decide +kernel
theorem dX6_readUse_41 : decode cX6_readUse 41 = .ok (.iconst 1, 1) := by decide +kernel
theorem dX6_readUse_42 : decode cX6_readUse 42 = .ok (.isub, 1) := by decide +kernel
theorem dX6_readUse_43 : decode cX6_readUse 43 = .ok (.iastore, 1) := by decide +kernel
theorem dX6_readUse_44 : decode cX6_readUse 44 = .ok (.aload_n 0, 1) := by decide +kernel
theorem dX6_readUse_45 : decode cX6_readUse 45 = .ok (.getfield 43, 3) := by decide +kernel
theorem dX6_readUse_48 : decode cX6_readUse 48 = .ok (.iconst 0, 1) := by decide +kernel
theorem dX6_readUse_49 : decode cX6_readUse 49 = .ok (.aaload, 1) := by decide +kernel
theorem dX6_readUse_50 : decode cX6_readUse 50 = .ok (.iload_n 1, 1) := by decide +kernel
theorem dX6_readUse_51 : decode cX6_readUse 51 = .ok (.lconst 0, 1) := by decide +kernel
theorem dX6_readUse_52 : decode cX6_readUse 52 = .ok (.lastore, 1) := by decide +kernel
theorem dX6_readUse_53 : decode cX6_readUse 53 = .ok (.aload_n 0, 1) := by decide +kernel
theorem dX6_readUse_54 : decode cX6_readUse 54 = .ok (.getfield 43, 3) := by decide +kernel
theorem dX6_readUse_57 : decode cX6_readUse 57 = .ok (.iconst 1, 1) := by decide +kernel
theorem dX6_readUse_58 : decode cX6_readUse 58 = .ok (.aaload, 1) := by decide +kernel
theorem dX6_readUse_59 : decode cX6_readUse 59 = .ok (.iload_n 1, 1) := by decide +kernel
theorem dX6_readUse_60 : decode cX6_readUse 60 = .ok (.aload_n 0, 1) := by decide +kernel
theorem dX6_readUse_61 : decode cX6_readUse 61 = .ok (.invokevirtual 127, 3) := by decide +kernel
theorem dX6_readUse_64 : decode cX6_readUse 64 = .ok (.lastore, 1) := by decide +kernel
theorem dX6_readUse_65 : decode cX6_readUse 65 = .ok (.aload_n 0, 1) := by decide +kernel
theorem dX6_readUse_66 : decode cX6_readUse 66 = .ok (.getfield 38, 3) := by decide +kernel
theorem dX6_readUse_69 : decode cX6_readUse 69 = .ok (.iconst 5, 1) := by decide +kernel
theorem dX6_readUse_70 : decode cX6_readUse 70 = .ok (.aaload, 1) := by decide +kernel
theorem dX6_readUse_71 : decode cX6_readUse 71 = .ok (.iload_n 1, 1) := by decide +kernel
theorem dX6_readUse_72 : decode cX6_readUse 72 = .ok (.aload_n 0, 1) := by decide +kernel
theorem dX6_readUse_73 : decode cX6_readUse 73 = .ok (.getfield 12, 3) := by decide +kernel
theorem dX6_readUse_76 : decode cX6_readUse 76 = .ok (.getfield 115, 3) := by decide +kernel
theorem dX6_readUse_79 : decode cX6_readUse 79 = .ok (.aload_n 0, 1) := by decide +kernel
theorem dX6_readUse_80 : decode cX6_readUse 80 = .ok (.getfield 75, 3) := by decide +kernel
theorem dX6_readUse_83 : decode cX6_readUse 83 = .ok (.iaload, 1) := by decide +kernel
theorem dX6_readUse_84 : decode cX6_readUse 84 = .ok (.iastore, 1) := by decide +kernel
theorem dX6_readUse_85 : decode cX6_readUse 85 = .ok (.aload_n 0, 1) := by decide +kernel
theorem dX6_readUse_86 : decode cX6_readUse 86 = .ok (.invokevirtual 121, 3) := by decide +kernel
theorem dX6_readUse_89 : decode cX6_readUse 89 = .ok (.aload_n 0, 1) := by decide +kernel
theorem dX6_readUse_90 : decode cX6_readUse 90 = .ok (.getfield 81, 3) := by decide +kernel
theorem dX6_readUse_93 : decode cX6_readUse 93 = .ok (.bipush 46, 2) := by decide +kernel
theorem dX6_readUse_95 : decode cX6_readUse 95 = .ok (.if_icmp .ne 91, 3) := by decide +kernel
theorem dX6_readUse_98 : decode cX6_readUse 98 = .ok (.aload_n 0, 1) := by decide +kernel
theorem dX6_readUse_99 : decode cX6_readUse 99 = .ok (.invokevirtual 121, 3) := by decide +kernel
theorem dX6_readUse_102 : decode cX6_readUse 102 = .ok (.aload_n 0, 1) := by decide +kernel
theorem dX6_readUse_103 : decode cX6_readUse 103 = .ok (.getfield 43, 3) := by decide +kernel
theorem dX6_readUse_106 : decode cX6_readUse 106 = .ok (.iconst 0, 1) := by decide +kernel
theorem dX6_readUse_107 : decode cX6_readUse 107 = .ok (.aaload, 1) := by decide +kernel
theorem dX6_readUse_108 : decode cX6_readUse 108 = .ok (.iload_n 1, 1) := by decide +kernel
theorem dX6_readUse_109 : decode cX6_readUse 109 = .ok (.aload_n 0, 1) := by decide +kernel
theorem dX6_readUse_110 : decode cX6_readUse 110 = .ok (.getfield 43, 3) := by decide +kernel
theorem dX6_readUse_113 : decode cX6_readUse 113 = .ok (.iconst 1, 1) := by decide +kernel
theorem dX6_readUse_114 : decode cX6_readUse 114 = .ok (.aaload, 1) := by decide +kernel
theorem dX6_readUse_115 : decode cX6_readUse 115 = .ok (.iload_n 1, 1) := by decide +kernel
theorem dX6_readUse_116 : decode cX6_readUse 116 = .ok (.laload, 1) := by decide +kernel
theorem dX6_readUse_117 : decode cX6_readUse 117 = .ok (.lastore, 1) := by decide +kernel
theorem dX6_readUse_118 : decode cX6_readUse 118 = .ok (.aload_n 0, 1) := by decide +kernel
theorem dX6_readUse_119 : decode cX6_readUse 119 = .ok (.getfield 38, 3) := by decide +kernel
theorem dX6_readUse_122 : decode cX6_readUse 122 = .ok (.iconst 4, 1) := by decide +kernel
theorem dX6_readUse_123 : decode cX6_readUse 123 = .ok (.aaload, 1) := by decide +kernel
theorem dX6_readUse_124 : decode cX6_readUse 124 = .ok (.iload_n 1, 1) := by decide +kernel
theorem dX6_readUse_125 : decode cX6_readUse 125 = .ok (.aload_n 0, 1) := by decide +kernel
theorem dX6_readUse_126 : decode cX6_readUse 126 = .ok (.getfield 38, 3) := by decide +kernel
theorem dX6_readUse_129 : decode cX6_readUse 129 = .ok (.iconst 5, 1) := by decide +kernel
theorem dX6_readUse_130 : decode cX6_readUse 130 = .ok (.aaload, 1) := by decide +kernel
theorem dX6_readUse_131 : decode cX6_readUse 131 = .ok (.iload_n 1, 1) := by decide +kernel
theorem dX6_readUse_132 : decode cX6_readUse 132 = .ok (.iaload, 1) := by decide +kernel
theorem dX6_readUse_133 : decode cX6_readUse 133 = .ok (.iastore, 1) := by decide +kernel
theorem dX6_readUse_134 : decode cX6_readUse 134 = .ok (.aload_n 0, 1) := by decide +kernel
theorem dX6_readUse_135 : decode cX6_readUse 135 = .ok (.getfield 43, 3) := by decide +kernel
theorem dX6_readUse_138 : decode cX6_readUse 138 = .ok (.iconst 1, 1) := by decide +kernel
theorem dX6_readUse_139 : decode cX6_readUse 139 = .ok (.aaload, 1) := by decide +kernel
theorem dX6_readUse_140 : decode cX6_readUse 140 = .ok (.iload_n 1, 1) := by decide +kernel
theorem dX6_readUse_141 : decode cX6_readUse 141 = .ok (.aload_n 0, 1) := by decide +kernel
theorem dX6_readUse_142 : decode cX6_readUse 142 = .ok (.invokevirtual 127, 3) := by decide +kernel
theorem dX6_readUse_145 : decode cX6_readUse 145 = .ok (.lastore, 1) := by decide +kernel
theorem dX6_readUse_146 : decode cX6_readUse 146 = .ok (.aload_n 0, 1) := by decide +kernel
theorem dX6_readUse_147 : decode cX6_readUse 147 = .ok (.getfield 38, 3) := by decide +kernel
theorem dX6_readUse_150 : decode cX6_readUse 150 = .ok (.iconst 5, 1) := by decide +kernel
theorem dX6_readUse_151 : decode cX6_readUse 151 = .ok (.aaload, 1) := by decide +kernel
theorem dX6_readUse_152 : decode cX6_readUse 152 = .ok (.iload_n 1, 1) := by decide +kernel
theorem dX6_readUse_153 : decode cX6_readUse 153 = .ok (.aload_n 0, 1) := by decide +kernel
theorem dX6_readUse_154 : decode cX6_readUse 154 = .ok (.getfield 12, 3) := by decide +kernel
theorem dX6_readUse_157 : decode cX6_readUse 157 = .ok (.getfield 115, 3) := by decide +kernel
theorem dX6_readUse_160 : decode cX6_readUse 160 = .ok (.aload_n 0, 1) := by decide +kernel
theorem dX6_readUse_161 : decode cX6_readUse 161 = .ok (.getfield 75, 3) := by decide +kernel
theorem dX6_readUse_164 : decode cX6_readUse 164 = .ok (.iaload, 1) := by decide +kernel
theorem dX6_readUse_165 : decode cX6_readUse 165 = .ok (.iastore, 1) := by decide +kernel
theorem dX6_readUse_166 : decode cX6_readUse 166 = .ok (.aload_n 0, 1) := by decide +kernel
theorem dX6_readUse_167 : decode cX6_readUse 167 = .ok (.getfield 81, 3) := by decide +kernel
theorem dX6_readUse_170 : decode cX6_readUse 170 = .ok (.iconst 3, 1) := by decide +kernel
theorem dX6_readUse_171 : decode cX6_readUse 171 = .ok (.if_icmp .ne 10, 3) := by decide +kernel
theorem dX6_readUse_174 : decode cX6_readUse 174 = .ok (.aload_n 0, 1) := by decide +kernel
theorem dX6_readUse_175 : decode cX6_readUse 175 = .ok (.invokevirtual 121, 3) := by decide +kernel
theorem dX6_readUse_178 : decode cX6_readUse 178 = .ok (.goto 8, 3) := by decide +kernel
theorem dX6_readUse_181 : decode cX6_readUse 181 = .ok (.aload_n 0, 1) := by decide +kernel
theorem dX6_readUse_182 : decode cX6_readUse 182 = .ok (.iconst 2, 1) := by decide +kernel
theorem dX6_readUse_183 : decode cX6_readUse 183 = .ok (.invokevirtual 109, 3) := by decide +kernel
theorem dX6_readUse_186 : decode cX6_readUse 186 = .ok (.iload_n 1, 1) := by decide +kernel
theorem dX6_readUse_187 : decode cX6_readUse 187 = .ok (.ireturn, 1) := by decide +kernel
theorem dX6_settleLater_0 : decode cX6_settleLater 0 = .ok (.aload_n 0, 1) := by decide +kernel
theorem dX6_settleLater_1 : decode cX6_settleLater 1 = .ok (.getfield 38, 3) := by decide +kernel
theorem dX6_settleLater_4 : decode cX6_settleLater 4 = .ok (.iconst 0, 1) := by decide +kernel
theorem dX6_settleLater_5 : decode cX6_settleLater 5 = .ok (.aaload, 1) := by decide +kernel
theorem dX6_settleLater_6 : decode cX6_settleLater 6 = .ok (.iload_n 1, 1) := by decide +kernel
theorem dX6_settleLater_7 : decode cX6_settleLater 7 = .ok (.iload_n 2, 1) := by decide +kernel
theorem dX6_settleLater_8 : decode cX6_settleLater 8 = .ok (.iastore, 1) := by decide +kernel
theorem dX6_settleLater_9 : decode cX6_settleLater 9 = .ok (.aload_n 0, 1) := by decide +kernel
theorem dX6_settleLater_10 : decode cX6_settleLater 10 = .ok (.getfield 38, 3) := by decide +kernel
theorem dX6_settleLater_13 : decode cX6_settleLater 13 = .ok (.iconst 1, 1) := by decide +kernel
theorem dX6_settleLater_14 : decode cX6_settleLater 14 = .ok (.aaload, 1) := by decide +kernel
theorem dX6_settleLater_15 : decode cX6_settleLater 15 = .ok (.iload_n 1, 1) := by decide +kernel
theorem dX6_settleLater_16 : decode cX6_settleLater 16 = .ok (.aload_n 0, 1) := by decide +kernel
theorem dX6_settleLater_17 : decode cX6_settleLater 17 = .ok (.iload_n 3, 1) := by decide +kernel
theorem dX6_settleLater_18 : decode cX6_settleLater 18 = .ok (.iconst 0, 1) := by decide +kernel
theorem dX6_settleLater_19 : decode cX6_settleLater 19 = .ok (.invokevirtual 256, 3) := by decide +kernel
theorem dX6_settleLater_22 : decode cX6_settleLater 22 = .ok (.iastore, 1) := by decide +kernel
theorem dX6_settleLater_23 : decode cX6_settleLater 23 = .ok (.return_, 1) := by decide +kernel
theorem dX6_emitPlain_0 : decode cX6_emitPlain 0 = .ok (.aload_n 0, 1) := by decide +kernel
theorem dX6_emitPlain_1 : decode cX6_emitPlain 1 = .ok (.getfield 43, 3) := by decide +kernel
theorem dX6_emitPlain_4 : decode cX6_emitPlain 4 = .ok (.iconst 0, 1) := by decide +kernel
theorem dX6_emitPlain_5 : decode cX6_emitPlain 5 = .ok (.aaload, 1) := by decide +kernel
theorem dX6_emitPlain_6 : decode cX6_emitPlain 6 = .ok (.iload_n 1, 1) := by decide +kernel
theorem dX6_emitPlain_7 : decode cX6_emitPlain 7 = .ok (.laload, 1) := by decide +kernel
theorem dX6_emitPlain_8 : decode cX6_emitPlain 8 = .ok (.lconst 0, 1) := by decide +kernel
theorem dX6_emitPlain_9 : decode cX6_emitPlain 9 = .ok (.lcmp, 1) := by decide +kernel
theorem dX6_emitPlain_10 : decode cX6_emitPlain 10 = .ok (.ifCond .ne 18, 3) := by decide +kernel
theorem dX6_emitPlain_13 : decode cX6_emitPlain 13 = .ok (.aload_n 0, 1) := by decide +kernel
theorem dX6_emitPlain_14 : decode cX6_emitPlain 14 = .ok (.aload_n 0, 1) := by decide +kernel
theorem dX6_emitPlain_15 : decode cX6_emitPlain 15 = .ok (.getfield 43, 3) := by decide +kernel
theorem dX6_emitPlain_18 : decode cX6_emitPlain 18 = .ok (.iconst 1, 1) := by decide +kernel
theorem dX6_emitPlain_19 : decode cX6_emitPlain 19 = .ok (.aaload, 1) := by decide +kernel
theorem dX6_emitPlain_20 : decode cX6_emitPlain 20 = .ok (.iload_n 1, 1) := by decide +kernel
theorem dX6_emitPlain_21 : decode cX6_emitPlain 21 = .ok (.laload, 1) := by decide +kernel
theorem dX6_emitPlain_22 : decode cX6_emitPlain 22 = .ok (.invokevirtual 221, 3) := by decide +kernel
theorem dX6_emitPlain_25 : decode cX6_emitPlain 25 = .ok (.goto 5, 3) := by decide +kernel
theorem dX6_emitPlain_28 : decode cX6_emitPlain 28 = .ok (.bipush (-2), 2) := by decide +kernel
theorem dX6_emitPlain_30 : decode cX6_emitPlain 30 = .ok (.istore 5, 2) := by decide +kernel
theorem dX6_emitPlain_32 : decode cX6_emitPlain 32 = .ok (.aload_n 0, 1) := by decide +kernel
theorem dX6_emitPlain_33 : decode cX6_emitPlain 33 = .ok (.getfield 38, 3) := by decide +kernel
theorem dX6_emitPlain_36 : decode cX6_emitPlain 36 = .ok (.iconst 0, 1) := by decide +kernel
theorem dX6_emitPlain_37 : decode cX6_emitPlain 37 = .ok (.aaload, 1) := by decide +kernel
theorem dX6_emitPlain_38 : decode cX6_emitPlain 38 = .ok (.iload_n 1, 1) := by decide +kernel
theorem dX6_emitPlain_39 : decode cX6_emitPlain 39 = .ok (.iload 5, 2) := by decide +kernel
theorem dX6_emitPlain_41 : decode cX6_emitPlain 41 = .ok (.ifCond .lt 7, 3) := by decide +kernel
theorem dX6_emitPlain_44 : decode cX6_emitPlain 44 = .ok (.iconst 0, 1) := by decide +kernel
theorem dX6_emitPlain_45 : decode cX6_emitPlain 45 = .ok (.goto 4, 3) := by decide +kernel
theorem dX6_emitPlain_48 : decode cX6_emitPlain 48 = .ok (.iload_n 2, 1) := by decide +kernel
theorem dX6_emitPlain_49 : decode cX6_emitPlain 49 = .ok (.iastore, 1) := by decide +kernel
theorem dX6_emitPlain_50 : decode cX6_emitPlain 50 = .ok (.aload_n 0, 1) := by decide +kernel
theorem dX6_emitPlain_51 : decode cX6_emitPlain 51 = .ok (.getfield 38, 3) := by decide +kernel
theorem dX6_emitPlain_54 : decode cX6_emitPlain 54 = .ok (.iconst 1, 1) := by decide +kernel
theorem dX6_emitPlain_55 : decode cX6_emitPlain 55 = .ok (.aaload, 1) := by decide +kernel
theorem dX6_emitPlain_56 : decode cX6_emitPlain 56 = .ok (.iload_n 1, 1) := by decide +kernel
theorem dX6_emitPlain_57 : decode cX6_emitPlain 57 = .ok (.iload 5, 2) := by decide +kernel
theorem dX6_emitPlain_59 : decode cX6_emitPlain 59 = .ok (.ifCond .lt 13, 3) := by decide +kernel
theorem dX6_emitPlain_62 : decode cX6_emitPlain 62 = .ok (.aload_n 0, 1) := by decide +kernel
theorem dX6_emitPlain_63 : decode cX6_emitPlain 63 = .ok (.iload_n 3, 1) := by decide +kernel
theorem dX6_emitPlain_64 : decode cX6_emitPlain 64 = .ok (.iload 5, 2) := by decide +kernel
theorem dX6_emitPlain_66 : decode cX6_emitPlain 66 = .ok (.invokevirtual 256, 3) := by decide +kernel
theorem dX6_emitPlain_69 : decode cX6_emitPlain 69 = .ok (.goto 10, 3) := by decide +kernel
theorem dX6_emitPlain_72 : decode cX6_emitPlain 72 = .ok (.aload_n 0, 1) := by decide +kernel
theorem dX6_emitPlain_73 : decode cX6_emitPlain 73 = .ok (.iload 4, 2) := by decide +kernel
theorem dX6_emitPlain_75 : decode cX6_emitPlain 75 = .ok (.iconst 0, 1) := by decide +kernel
theorem dX6_emitPlain_76 : decode cX6_emitPlain 76 = .ok (.invokevirtual 256, 3) := by decide +kernel
theorem dX6_emitPlain_79 : decode cX6_emitPlain 79 = .ok (.iastore, 1) := by decide +kernel
theorem dX6_emitPlain_80 : decode cX6_emitPlain 80 = .ok (.return_, 1) := by decide +kernel
theorem dX6_settleUses_0 : decode cX6_settleUses 0 = .ok (.iconst 0, 1) := by decide +kernel
theorem dX6_settleUses_1 : decode cX6_settleUses 1 = .ok (.istore_n 1, 1) := by decide +kernel
theorem dX6_settleUses_2 : decode cX6_settleUses 2 = .ok (.iload_n 1, 1) := by decide +kernel
theorem dX6_settleUses_3 : decode cX6_settleUses 3 = .ok (.aload_n 0, 1) := by decide +kernel
theorem dX6_settleUses_4 : decode cX6_settleUses 4 = .ok (.getfield 69, 3) := by decide +kernel
theorem dX6_settleUses_7 : decode cX6_settleUses 7 = .ok (.if_icmp .ge 32, 3) := by decide +kernel
theorem dX6_settleUses_10 : decode cX6_settleUses 10 = .ok (.aload_n 0, 1) := by decide +kernel
theorem dX6_settleUses_11 : decode cX6_settleUses 11 = .ok (.getfield 66, 3) := by decide +kernel
theorem dX6_settleUses_14 : decode cX6_settleUses 14 = .ok (.ifCond .ne 25, 3) := by decide +kernel
theorem dX6_settleUses_17 : decode cX6_settleUses 17 = .ok (.aload_n 0, 1) := by decide +kernel
theorem dX6_settleUses_18 : decode cX6_settleUses 18 = .ok (.getfield 38, 3) := by decide +kernel
theorem dX6_settleUses_21 : decode cX6_settleUses 21 = .ok (.iconst 0, 1) := by decide +kernel
theorem dX6_settleUses_22 : decode cX6_settleUses 22 = .ok (.aaload, 1) := by decide +kernel
theorem dX6_settleUses_23 : decode cX6_settleUses 23 = .ok (.iload_n 1, 1) := by decide +kernel
theorem dX6_settleUses_24 : decode cX6_settleUses 24 = .ok (.iaload, 1) := by decide +kernel
theorem dX6_settleUses_25 : decode cX6_settleUses 25 = .ok (.ifCond .eq 8, 3) := by decide +kernel
theorem dX6_settleUses_28 : decode cX6_settleUses 28 = .ok (.aload_n 0, 1) := by decide +kernel
theorem dX6_settleUses_29 : decode cX6_settleUses 29 = .ok (.iload_n 1, 1) := by decide +kernel
theorem dX6_settleUses_30 : decode cX6_settleUses 30 = .ok (.invokevirtual 324, 3) := by decide +kernel
theorem dX6_settleUses_33 : decode cX6_settleUses 33 = .ok (.iinc 1 1, 3) := by decide +kernel
theorem dX6_settleUses_36 : decode cX6_settleUses 36 = .ok (.goto (-34), 3) := by decide +kernel
theorem dX6_settleUses_39 : decode cX6_settleUses 39 = .ok (.return_, 1) := by decide +kernel
theorem dX6_settle_0 : decode cX6_settle 0 = .ok (.aload_n 0, 1) := by decide +kernel
theorem dX6_settle_1 : decode cX6_settle 1 = .ok (.getfield 38, 3) := by decide +kernel
theorem dX6_settle_4 : decode cX6_settle 4 = .ok (.iconst 3, 1) := by decide +kernel
theorem dX6_settle_5 : decode cX6_settle 5 = .ok (.aaload, 1) := by decide +kernel
theorem dX6_settle_6 : decode cX6_settle 6 = .ok (.iload_n 1, 1) := by decide +kernel
theorem dX6_settle_7 : decode cX6_settle 7 = .ok (.iaload, 1) := by decide +kernel
theorem dX6_settle_8 : decode cX6_settle 8 = .ok (.istore_n 2, 1) := by decide +kernel
theorem dX6_settle_9 : decode cX6_settle 9 = .ok (.aload_n 0, 1) := by decide +kernel
theorem dX6_settle_10 : decode cX6_settle 10 = .ok (.getfield 43, 3) := by decide +kernel
theorem dX6_settle_13 : decode cX6_settle 13 = .ok (.iconst 0, 1) := by decide +kernel
theorem dX6_settle_14 : decode cX6_settle 14 = .ok (.aaload, 1) := by decide +kernel
theorem dX6_settle_15 : decode cX6_settle 15 = .ok (.iload_n 1, 1) := by decide +kernel
theorem dX6_settle_16 : decode cX6_settle 16 = .ok (.laload, 1) := by decide +kernel
theorem dX6_settle_17 : decode cX6_settle 17 = .ok (.lstore_n 3, 1) := by decide +kernel
theorem dX6_settle_18 : decode cX6_settle 18 = .ok (.lload_n 3, 1) := by decide +kernel
theorem dX6_settle_19 : decode cX6_settle 19 = .ok (.lconst 0, 1) := by decide +kernel
theorem dX6_settle_20 : decode cX6_settle 20 = .ok (.lcmp, 1) := by decide +kernel
theorem dX6_settle_21 : decode cX6_settle 21 = .ok (.ifCond .ne 7, 3) := by decide +kernel
theorem dX6_settle_24 : decode cX6_settle 24 = .ok (.iload_n 2, 1) := by decide +kernel
theorem dX6_settle_25 : decode cX6_settle 25 = .ok (.goto 8, 3) := by decide +kernel
theorem dX6_settle_28 : decode cX6_settle 28 = .ok (.aload_n 0, 1) := by decide +kernel
theorem dX6_settle_29 : decode cX6_settle 29 = .ok (.lload_n 3, 1) := by decide +kernel
theorem dX6_settle_30 : decode cX6_settle 30 = .ok (.invokevirtual 148, 3) := by decide +kernel
theorem dX6_settle_33 : decode cX6_settle 33 = .ok (.istore 5, 2) := by decide +kernel
theorem dX6_settle_35 : decode cX6_settle 35 = .ok (.aload_n 0, 1) := by decide +kernel
theorem dX6_settle_36 : decode cX6_settle 36 = .ok (.iload 5, 2) := by decide +kernel
theorem dX6_settle_38 : decode cX6_settle 38 = .ok (.aload_n 0, 1) := by decide +kernel
theorem dX6_settle_39 : decode cX6_settle 39 = .ok (.getfield 43, 3) := by decide +kernel
theorem dX6_settle_42 : decode cX6_settle 42 = .ok (.iconst 1, 1) := by decide +kernel
theorem dX6_settle_43 : decode cX6_settle 43 = .ok (.aaload, 1) := by decide +kernel
theorem dX6_settle_44 : decode cX6_settle 44 = .ok (.iload_n 1, 1) := by decide +kernel
theorem dX6_settle_45 : decode cX6_settle 45 = .ok (.laload, 1) := by decide +kernel
theorem dX6_settle_46 : decode cX6_settle 46 = .ok (.invokevirtual 327, 3) := by decide +kernel
theorem dX6_settle_49 : decode cX6_settle 49 = .ok (.istore 6, 2) := by decide +kernel
theorem dX6_settle_51 : decode cX6_settle 51 = .ok (.iload 6, 2) := by decide +kernel
theorem dX6_settle_53 : decode cX6_settle 53 = .ok (.ifCond .ge 7, 3) := by decide +kernel
theorem dX6_settle_56 : decode cX6_settle 56 = .ok (.aconst_null, 1) := by decide +kernel
theorem dX6_settle_57 : decode cX6_settle 57 = .ok (.goto 15, 3) := by decide +kernel
theorem dX6_settle_60 : decode cX6_settle 60 = .ok (.aload_n 0, 1) := by decide +kernel
theorem dX6_settle_61 : decode cX6_settle 61 = .ok (.getfield 53, 3) := by decide +kernel
theorem dX6_settle_64 : decode cX6_settle 64 = .ok (.iload 6, 2) := by decide +kernel
theorem dX6_settle_66 : decode cX6_settle 66 = .ok (.invokevirtual 97, 3) := by decide +kernel
theorem dX6_settle_69 : decode cX6_settle 69 = .ok (.checkcast 135, 3) := by decide +kernel
theorem dX6_settle_72 : decode cX6_settle 72 = .ok (.astore 7, 2) := by decide +kernel
theorem dX6_settle_74 : decode cX6_settle 74 = .ok (.aload 7, 2) := by decide +kernel
theorem dX6_settle_76 : decode cX6_settle 76 = .ok (.ifnull 31, 3) := by decide +kernel
theorem dX6_settle_79 : decode cX6_settle 79 = .ok (.aload 7, 2) := by decide +kernel
theorem dX6_settle_81 : decode cX6_settle 81 = .ok (.getfield 197, 3) := by decide +kernel
theorem dX6_settle_84 : decode cX6_settle 84 = .ok (.ifCond .eq 9, 3) := by decide +kernel
theorem dX6_settle_87 : decode cX6_settle 87 = .ok (.iload 5, 2) := by decide +kernel
theorem dX6_settle_89 : decode cX6_settle 89 = .ok (.iload_n 2, 1) := by decide +kernel
theorem dX6_settle_90 : decode cX6_settle 90 = .ok (.if_icmp .ne 17, 3) := by decide +kernel
theorem dX6_settle_93 : decode cX6_settle 93 = .ok (.aload_n 0, 1) := by decide +kernel
theorem dX6_settle_94 : decode cX6_settle 94 = .ok (.aload 7, 2) := by decide +kernel
theorem dX6_settle_96 : decode cX6_settle 96 = .ok (.iload_n 1, 1) := by decide +kernel
theorem dX6_settle_97 : decode cX6_settle 97 = .ok (.invokevirtual 331, 3) := by decide +kernel
theorem dX6_settle_100 : decode cX6_settle 100 = .ok (.ifCond .eq 7, 3) := by decide +kernel
theorem dX6_settle_103 : decode cX6_settle 103 = .ok (.iconst 1, 1) := by decide +kernel
theorem dX6_settle_104 : decode cX6_settle 104 = .ok (.goto 4, 3) := by decide +kernel
theorem dX6_settle_107 : decode cX6_settle 107 = .ok (.iconst 0, 1) := by decide +kernel
theorem dX6_settle_108 : decode cX6_settle 108 = .ok (.istore 8, 2) := by decide +kernel
theorem dX6_settle_110 : decode cX6_settle 110 = .ok (.iload 8, 2) := by decide +kernel
theorem dX6_settle_112 : decode cX6_settle 112 = .ok (.ifCond .ne 30, 3) := by decide +kernel
theorem dX6_settle_115 : decode cX6_settle 115 = .ok (.aload_n 0, 1) := by decide +kernel
theorem dX6_settle_116 : decode cX6_settle 116 = .ok (.iconst 4, 1) := by decide +kernel
theorem dX6_settle_117 : decode cX6_settle 117 = .ok (.putfield 66, 3) := by decide +kernel
theorem dX6_settle_120 : decode cX6_settle 120 = .ok (.aload_n 0, 1) := by decide +kernel
theorem dX6_settle_121 : decode cX6_settle 121 = .ok (.aload_n 0, 1) := by decide +kernel
theorem dX6_settle_122 : decode cX6_settle 122 = .ok (.getfield 38, 3) := by decide +kernel
theorem dX6_settle_125 : decode cX6_settle 125 = .ok (.iload 5, 2) := by decide +kernel
theorem dX6_settle_127 : decode cX6_settle 127 = .ok (.ifCond .ge 7, 3) := by decide +kernel
theorem dX6_settle_130 : decode cX6_settle 130 = .ok (.iconst 4, 1) := by decide +kernel
theorem dX6_settle_131 : decode cX6_settle 131 = .ok (.goto 4, 3) := by decide +kernel
theorem dX6_settle_134 : decode cX6_settle 134 = .ok (.iconst 5, 1) := by decide +kernel
theorem dX6_settle_135 : decode cX6_settle 135 = .ok (.aaload, 1) := by decide +kernel
theorem dX6_settle_136 : decode cX6_settle 136 = .ok (.iload_n 1, 1) := by decide +kernel
theorem dX6_settle_137 : decode cX6_settle 137 = .ok (.iaload, 1) := by decide +kernel
theorem dX6_settle_138 : decode cX6_settle 138 = .ok (.putfield 118, 3) := by decide +kernel
theorem dX6_settle_141 : decode cX6_settle 141 = .ok (.return_, 1) := by decide +kernel
theorem dX6_settle_142 : decode cX6_settle 142 = .ok (.aload_n 0, 1) := by decide +kernel
theorem dX6_settle_143 : decode cX6_settle 143 = .ok (.getfield 38, 3) := by decide +kernel
theorem dX6_settle_146 : decode cX6_settle 146 = .ok (.iconst 1, 1) := by decide +kernel
theorem dX6_settle_147 : decode cX6_settle 147 = .ok (.aaload, 1) := by decide +kernel
theorem dX6_settle_148 : decode cX6_settle 148 = .ok (.iload_n 1, 1) := by decide +kernel
theorem dX6_settle_149 : decode cX6_settle 149 = .ok (.iaload, 1) := by decide +kernel
theorem dX6_settle_150 : decode cX6_settle 150 = .ok (.istore 9, 2) := by decide +kernel
theorem dX6_settle_152 : decode cX6_settle 152 = .ok (.aload 7, 2) := by decide +kernel
theorem dX6_settle_154 : decode cX6_settle 154 = .ok (.getfield 335, 3) := by decide +kernel
theorem dX6_settle_157 : decode cX6_settle 157 = .ok (.ifCond .ne 26, 3) := by decide +kernel
theorem dX6_settle_160 : decode cX6_settle 160 = .ok (.aload_n 0, 1) := by decide +kernel
theorem dX6_settle_161 : decode cX6_settle 161 = .ok (.getfield 18, 3) := by decide +kernel
theorem dX6_settle_164 : decode cX6_settle 164 = .ok (.iload 9, 2) := by decide +kernel
theorem dX6_settle_166 : decode cX6_settle 166 = .ok (.iconst 0, 1) := by decide +kernel
theorem dX6_settle_167 : decode cX6_settle 167 = .ok (.iastore, 1) := by decide +kernel
theorem dX6_settle_168 : decode cX6_settle 168 = .ok (.aload_n 0, 1) := by decide +kernel
theorem dX6_settle_169 : decode cX6_settle 169 = .ok (.getfield 22, 3) := by decide +kernel
theorem dX6_settle_172 : decode cX6_settle 172 = .ok (.iload 9, 2) := by decide +kernel
theorem dX6_settle_174 : decode cX6_settle 174 = .ok (.aload 7, 2) := by decide +kernel
theorem dX6_settle_176 : decode cX6_settle 176 = .ok (.getfield 208, 3) := by decide +kernel
theorem dX6_settle_179 : decode cX6_settle 179 = .ok (.iastore, 1) := by decide +kernel
theorem dX6_settle_180 : decode cX6_settle 180 = .ok (.goto 12, 3) := by decide +kernel
theorem dX6_settle_183 : decode cX6_settle 183 = .ok (.aload_n 0, 1) := by decide +kernel
theorem dX6_settle_184 : decode cX6_settle 184 = .ok (.getfield 22, 3) := by decide +kernel
theorem dX6_settle_187 : decode cX6_settle 187 = .ok (.iload 9, 2) := by decide +kernel
theorem dX6_settle_189 : decode cX6_settle 189 = .ok (.iload 6, 2) := by decide +kernel
theorem dX6_settle_191 : decode cX6_settle 191 = .ok (.iastore, 1) := by decide +kernel
theorem dX6_settle_192 : decode cX6_settle 192 = .ok (.return_, 1) := by decide +kernel
theorem dX6_suits_0 : decode cX6_suits 0 = .ok (.aload_n 0, 1) := by decide +kernel
theorem dX6_suits_1 : decode cX6_suits 1 = .ok (.getfield 38, 3) := by decide +kernel
theorem dX6_suits_4 : decode cX6_suits 4 = .ok (.iconst 0, 1) := by decide +kernel
theorem dX6_suits_5 : decode cX6_suits 5 = .ok (.aaload, 1) := by decide +kernel
theorem dX6_suits_6 : decode cX6_suits 6 = .ok (.iload_n 2, 1) := by decide +kernel
theorem dX6_suits_7 : decode cX6_suits 7 = .ok (.iaload, 1) := by decide +kernel
theorem dX6_suits_8 : decode cX6_suits 8 = .ok (.tableswitch 78 1 3 #[28, 42, 64], 28) := by decide +kernel
theorem dX6_suits_36 : decode cX6_suits 36 = .ok (.aload_n 1, 1) := by decide +kernel
theorem dX6_suits_37 : decode cX6_suits 37 = .ok (.getfield 335, 3) := by decide +kernel
theorem dX6_suits_40 : decode cX6_suits 40 = .ok (.iconst 2, 1) := by decide +kernel
theorem dX6_suits_41 : decode cX6_suits 41 = .ok (.if_icmp .gt 7, 3) := by decide +kernel
theorem dX6_suits_44 : decode cX6_suits 44 = .ok (.iconst 1, 1) := by decide +kernel
theorem dX6_suits_45 : decode cX6_suits 45 = .ok (.goto 4, 3) := by decide +kernel
theorem dX6_suits_48 : decode cX6_suits 48 = .ok (.iconst 0, 1) := by decide +kernel
theorem dX6_suits_49 : decode cX6_suits 49 = .ok (.ireturn, 1) := by decide +kernel
theorem dX6_suits_50 : decode cX6_suits 50 = .ok (.aload_n 1, 1) := by decide +kernel
theorem dX6_suits_51 : decode cX6_suits 51 = .ok (.getfield 335, 3) := by decide +kernel
theorem dX6_suits_54 : decode cX6_suits 54 = .ok (.iconst 1, 1) := by decide +kernel
theorem dX6_suits_55 : decode cX6_suits 55 = .ok (.if_icmp .eq 11, 3) := by decide +kernel
theorem dX6_suits_58 : decode cX6_suits 58 = .ok (.aload_n 1, 1) := by decide +kernel
theorem dX6_suits_59 : decode cX6_suits 59 = .ok (.getfield 335, 3) := by decide +kernel
theorem dX6_suits_62 : decode cX6_suits 62 = .ok (.iconst 2, 1) := by decide +kernel
theorem dX6_suits_63 : decode cX6_suits 63 = .ok (.if_icmp .ne 7, 3) := by decide +kernel
theorem dX6_suits_66 : decode cX6_suits 66 = .ok (.iconst 1, 1) := by decide +kernel
theorem dX6_suits_67 : decode cX6_suits 67 = .ok (.goto 4, 3) := by decide +kernel
theorem dX6_suits_70 : decode cX6_suits 70 = .ok (.iconst 0, 1) := by decide +kernel
theorem dX6_suits_71 : decode cX6_suits 71 = .ok (.ireturn, 1) := by decide +kernel
theorem dX6_suits_72 : decode cX6_suits 72 = .ok (.aload_n 1, 1) := by decide +kernel
theorem dX6_suits_73 : decode cX6_suits 73 = .ok (.getfield 335, 3) := by decide +kernel
theorem dX6_suits_76 : decode cX6_suits 76 = .ok (.iconst 3, 1) := by decide +kernel
theorem dX6_suits_77 : decode cX6_suits 77 = .ok (.if_icmp .ne 7, 3) := by decide +kernel
theorem dX6_suits_80 : decode cX6_suits 80 = .ok (.iconst 1, 1) := by decide +kernel
theorem dX6_suits_81 : decode cX6_suits 81 = .ok (.goto 4, 3) := by decide +kernel
theorem dX6_suits_84 : decode cX6_suits 84 = .ok (.iconst 0, 1) := by decide +kernel
theorem dX6_suits_85 : decode cX6_suits 85 = .ok (.ireturn, 1) := by decide +kernel
theorem dX6_suits_86 : decode cX6_suits 86 = .ok (.aload_n 1, 1) := by decide +kernel
theorem dX6_suits_87 : decode cX6_suits 87 = .ok (.getfield 335, 3) := by decide +kernel
theorem dX6_suits_90 : decode cX6_suits 90 = .ok (.iconst 4, 1) := by decide +kernel
theorem dX6_suits_91 : decode cX6_suits 91 = .ok (.if_icmp .ne 22, 3) := by decide +kernel
theorem dX6_suits_94 : decode cX6_suits 94 = .ok (.aload_n 1, 1) := by decide +kernel
theorem dX6_suits_95 : decode cX6_suits 95 = .ok (.getfield 208, 3) := by decide +kernel
theorem dX6_suits_98 : decode cX6_suits 98 = .ok (.aload_n 0, 1) := by decide +kernel
theorem dX6_suits_99 : decode cX6_suits 99 = .ok (.getfield 38, 3) := by decide +kernel
theorem dX6_suits_102 : decode cX6_suits 102 = .ok (.iconst 2, 1) := by decide +kernel
theorem dX6_suits_103 : decode cX6_suits 103 = .ok (.aaload, 1) := by decide +kernel
theorem dX6_suits_104 : decode cX6_suits 104 = .ok (.iload_n 2, 1) := by decide +kernel
theorem dX6_suits_105 : decode cX6_suits 105 = .ok (.iaload, 1) := by decide +kernel
theorem dX6_suits_106 : decode cX6_suits 106 = .ok (.if_icmp .ne 7, 3) := by decide +kernel
theorem dX6_suits_109 : decode cX6_suits 109 = .ok (.iconst 1, 1) := by decide +kernel
theorem dX6_suits_110 : decode cX6_suits 110 = .ok (.goto 4, 3) := by decide +kernel
theorem dX6_suits_113 : decode cX6_suits 113 = .ok (.iconst 0, 1) := by decide +kernel
theorem dX6_suits_114 : decode cX6_suits 114 = .ok (.ireturn, 1) := by decide +kernel
theorem dX7_init_0 : decode cX7_init 0 = .ok (.aload_n 0, 1) := by decide +kernel
theorem dX7_init_1 : decode cX7_init 1 = .ok (.invokespecial 3, 3) := by decide +kernel
theorem dX7_init_4 : decode cX7_init 4 = .ok (.aload_n 0, 1) := by decide +kernel
theorem dX7_init_5 : decode cX7_init 5 = .ok (.bipush (-2), 2) := by decide +kernel
theorem dX7_init_7 : decode cX7_init 7 = .ok (.putfield 9, 3) := by decide +kernel
theorem dX7_init_10 : decode cX7_init 10 = .ok (.aload_n 0, 1) := by decide +kernel
theorem dX7_init_11 : decode cX7_init 11 = .ok (.lload_n 1, 1) := by decide +kernel
theorem dX7_init_12 : decode cX7_init 12 = .ok (.putfield 15, 3) := by decide +kernel
theorem dX7_init_15 : decode cX7_init 15 = .ok (.aload_n 0, 1) := by decide +kernel
theorem dX7_init_16 : decode cX7_init 16 = .ok (.iload_n 3, 1) := by decide +kernel
theorem dX7_init_17 : decode cX7_init 17 = .ok (.putfield 19, 3) := by decide +kernel
theorem dX7_init_20 : decode cX7_init 20 = .ok (.aload_n 0, 1) := by decide +kernel
theorem dX7_init_21 : decode cX7_init 21 = .ok (.iload 4, 2) := by decide +kernel
theorem dX7_init_23 : decode cX7_init 23 = .ok (.putfield 22, 3) := by decide +kernel
theorem dX7_init_26 : decode cX7_init 26 = .ok (.return_, 1) := by decide +kernel
theorem dX8_init_0 : decode cX8_init 0 = .ok (.aload_n 0, 1) := by decide +kernel
theorem dX8_init_1 : decode cX8_init 1 = .ok (.invokespecial 3, 3) := by decide +kernel
theorem dX8_init_4 : decode cX8_init 4 = .ok (.aload_n 0, 1) := by decide +kernel
theorem dX8_init_5 : decode cX8_init 5 = .ok (.sipush 3000, 3) := by decide +kernel
theorem dX8_init_8 : decode cX8_init 8 = .ok (.newarray .byte, 2) := by decide +kernel
theorem dX8_init_10 : decode cX8_init 10 = .ok (.putfield 9, 3) := by decide +kernel
theorem dX8_init_13 : decode cX8_init 13 = .ok (.aload_n 0, 1) := by decide +kernel
theorem dX8_init_14 : decode cX8_init 14 = .ok (.sipush 3001, 3) := by decide +kernel
theorem dX8_init_17 : decode cX8_init 17 = .ok (.newarray .int, 2) := by decide +kernel
theorem dX8_init_19 : decode cX8_init 19 = .ok (.putfield 15, 3) := by decide +kernel
theorem dX8_init_22 : decode cX8_init 22 = .ok (.aload_n 0, 1) := by decide +kernel
theorem dX8_init_23 : decode cX8_init 23 = .ok (.sipush 3001, 3) := by decide +kernel
theorem dX8_init_26 : decode cX8_init 26 = .ok (.newarray .int, 2) := by decide +kernel
theorem dX8_init_28 : decode cX8_init 28 = .ok (.putfield 19, 3) := by decide +kernel
theorem dX8_init_31 : decode cX8_init 31 = .ok (.aload_n 0, 1) := by decide +kernel
theorem dX8_init_32 : decode cX8_init 32 = .ok (.sipush 3001, 3) := by decide +kernel
theorem dX8_init_35 : decode cX8_init 35 = .ok (.newarray .long, 2) := by decide +kernel
theorem dX8_init_37 : decode cX8_init 37 = .ok (.putfield 22, 3) := by decide +kernel
theorem dX8_init_40 : decode cX8_init 40 = .ok (.aload_n 0, 1) := by decide +kernel
theorem dX8_init_41 : decode cX8_init 41 = .ok (.bipush 28, 2) := by decide +kernel
theorem dX8_init_43 : decode cX8_init 43 = .ok (.newarray .long, 2) := by decide +kernel
theorem dX8_init_45 : decode cX8_init 45 = .ok (.putfield 26, 3) := by decide +kernel
theorem dX8_init_48 : decode cX8_init 48 = .ok (.iconst 0, 1) := by decide +kernel
theorem dX8_init_49 : decode cX8_init 49 = .ok (.istore_n 1, 1) := by decide +kernel
theorem dX8_init_50 : decode cX8_init 50 = .ok (.iconst 0, 1) := by decide +kernel
theorem dX8_init_51 : decode cX8_init 51 = .ok (.istore_n 2, 1) := by decide +kernel
theorem dX8_init_52 : decode cX8_init 52 = .ok (.iload_n 2, 1) := by decide +kernel
theorem dX8_init_53 : decode cX8_init 53 = .ok (.ldc 29, 2) := by decide +kernel
theorem dX8_init_55 : decode cX8_init 55 = .ok (.invokevirtual 31, 3) := by decide +kernel
theorem dX8_init_58 : decode cX8_init 58 = .ok (.if_icmp .ge 52, 3) := by decide +kernel
theorem dX8_init_61 : decode cX8_init 61 = .ok (.iload_n 1, 1) := by decide +kernel
theorem dX8_init_62 : decode cX8_init 62 = .ok (.bipush 28, 2) := by decide +kernel
theorem dX8_init_64 : decode cX8_init 64 = .ok (.if_icmp .ge 46, 3) := by decide +kernel
theorem dX8_init_67 : decode cX8_init 67 = .ok (.ldc 29, 2) := by decide +kernel
theorem dX8_init_69 : decode cX8_init 69 = .ok (.iload_n 2, 1) := by decide +kernel
theorem dX8_init_70 : decode cX8_init 70 = .ok (.invokevirtual 37, 3) := by decide +kernel
theorem dX8_init_73 : decode cX8_init 73 = .ok (.istore_n 3, 1) := by decide +kernel
theorem dX8_init_74 : decode cX8_init 74 = .ok (.iload_n 3, 1) := by decide +kernel
theorem dX8_init_75 : decode cX8_init 75 = .ok (.bipush 32, 2) := by decide +kernel
theorem dX8_init_77 : decode cX8_init 77 = .ok (.if_icmp .ne 9, 3) := by decide +kernel
theorem dX8_init_80 : decode cX8_init 80 = .ok (.iinc 1 1, 3) := by decide +kernel
theorem dX8_init_83 : decode cX8_init 83 = .ok (.goto 21, 3) := by decide +kernel
theorem dX8_init_86 : decode cX8_init 86 = .ok (.aload_n 0, 1) := by decide +kernel
theorem dX8_init_87 : decode cX8_init 87 = .ok (.getfield 26, 3) := by decide +kernel
theorem dX8_init_90 : decode cX8_init 90 = .ok (.iload_n 1, 1) := by decide +kernel
theorem dX8_init_91 : decode cX8_init 91 = .ok (.aload_n 0, 1) := by decide +kernel
theorem dX8_init_92 : decode cX8_init 92 = .ok (.getfield 26, 3) := by decide +kernel
theorem dX8_init_95 : decode cX8_init 95 = .ok (.iload_n 1, 1) := by decide +kernel
theorem dX8_init_96 : decode cX8_init 96 = .ok (.laload, 1) := by decide +kernel
theorem dX8_init_97 : decode cX8_init 97 = .ok (.bipush 8, 2) := by decide +kernel
theorem dX8_init_99 : decode cX8_init 99 = .ok (.lshl, 1) := by decide +kernel
theorem dX8_init_100 : decode cX8_init 100 = .ok (.iload_n 3, 1) := by decide +kernel
theorem dX8_init_101 : decode cX8_init 101 = .ok (.i2l, 1) := by decide +kernel
theorem dX8_init_102 : decode cX8_init 102 = .ok (.lor, 1) := by decide +kernel
theorem dX8_init_103 : decode cX8_init 103 = .ok (.lastore, 1) := by decide +kernel
theorem dX8_init_104 : decode cX8_init 104 = .ok (.iinc 2 1, 3) := by decide +kernel
theorem dX8_init_107 : decode cX8_init 107 = .ok (.goto (-55), 3) := by decide +kernel
theorem dX8_init_110 : decode cX8_init 110 = .ok (.return_, 1) := by decide +kernel
theorem dX8_add_0 : decode cX8_add 0 = .ok (.bipush 24, 2) := by decide +kernel
theorem dX8_add_2 : decode cX8_add 2 = .ok (.istore_n 2, 1) := by decide +kernel
theorem dX8_add_3 : decode cX8_add 3 = .ok (.iload_n 2, 1) := by decide +kernel
theorem dX8_add_4 : decode cX8_add 4 = .ok (.ifCond .lt 42, 3) := by decide +kernel
theorem dX8_add_7 : decode cX8_add 7 = .ok (.aload_n 0, 1) := by decide +kernel
theorem dX8_add_8 : decode cX8_add 8 = .ok (.getfield 41, 3) := by decide +kernel
theorem dX8_add_11 : decode cX8_add 11 = .ok (.sipush 3000, 3) := by decide +kernel
theorem dX8_add_14 : decode cX8_add 14 = .ok (.if_icmp .ge 32, 3) := by decide +kernel
theorem dX8_add_17 : decode cX8_add 17 = .ok (.aload_n 0, 1) := by decide +kernel
theorem dX8_add_18 : decode cX8_add 18 = .ok (.getfield 9, 3) := by decide +kernel
theorem dX8_add_21 : decode cX8_add 21 = .ok (.aload_n 0, 1) := by decide +kernel
theorem dX8_add_22 : decode cX8_add 22 = .ok (.getfield 41, 3) := by decide +kernel
theorem dX8_add_25 : decode cX8_add 25 = .ok (.iload_n 1, 1) := by decide +kernel
theorem dX8_add_26 : decode cX8_add 26 = .ok (.iload_n 2, 1) := by decide +kernel
theorem dX8_add_27 : decode cX8_add 27 = .ok (.iushr, 1) := by decide +kernel
theorem dX8_add_28 : decode cX8_add 28 = .ok (.i2b, 1) := by decide +kernel
theorem dX8_add_29 : decode cX8_add 29 = .ok (.bastore, 1) := by decide +kernel
theorem dX8_add_30 : decode cX8_add 30 = .ok (.aload_n 0, 1) := by decide +kernel
theorem dX8_add_31 : decode cX8_add 31 = .ok (.dup, 1) := by decide +kernel
theorem dX8_add_32 : decode cX8_add 32 = .ok (.getfield 41, 3) := by decide +kernel
theorem dX8_add_35 : decode cX8_add 35 = .ok (.iconst 1, 1) := by decide +kernel
theorem dX8_add_36 : decode cX8_add 36 = .ok (.iadd, 1) := by decide +kernel
theorem dX8_add_37 : decode cX8_add 37 = .ok (.putfield 41, 3) := by decide +kernel
theorem dX8_add_40 : decode cX8_add 40 = .ok (.iinc 2 (-8), 3) := by decide +kernel
theorem dX8_add_43 : decode cX8_add 43 = .ok (.goto (-40), 3) := by decide +kernel
theorem dX8_add_46 : decode cX8_add 46 = .ok (.return_, 1) := by decide +kernel
theorem dX8_scan_0 : decode cX8_scan 0 = .ok (.aload_n 0, 1) := by decide +kernel
theorem dX8_scan_1 : decode cX8_scan 1 = .ok (.iconst 0, 1) := by decide +kernel
theorem dX8_scan_2 : decode cX8_scan 2 = .ok (.putfield 44, 3) := by decide +kernel
theorem dX8_scan_5 : decode cX8_scan 5 = .ok (.aload_n 0, 1) := by decide +kernel
theorem dX8_scan_6 : decode cX8_scan 6 = .ok (.iconst 0, 1) := by decide +kernel
theorem dX8_scan_7 : decode cX8_scan 7 = .ok (.putfield 47, 3) := by decide +kernel
theorem dX8_scan_10 : decode cX8_scan 10 = .ok (.iconst 1, 1) := by decide +kernel
theorem dX8_scan_11 : decode cX8_scan 11 = .ok (.istore_n 1, 1) := by decide +kernel
theorem dX8_scan_12 : decode cX8_scan 12 = .ok (.iconst 0, 1) := by decide +kernel
theorem dX8_scan_13 : decode cX8_scan 13 = .ok (.istore_n 2, 1) := by decide +kernel
theorem dX8_scan_14 : decode cX8_scan 14 = .ok (.iload_n 2, 1) := by decide +kernel
theorem dX8_scan_15 : decode cX8_scan 15 = .ok (.sipush 3000, 3) := by decide +kernel
theorem dX8_scan_18 : decode cX8_scan 18 = .ok (.if_icmp .gt 145, 3) := by decide +kernel
theorem dX8_scan_21 : decode cX8_scan 21 = .ok (.iload_n 1, 1) := by decide +kernel
theorem dX8_scan_22 : decode cX8_scan 22 = .ok (.ifCond .eq 141, 3) := by decide +kernel
theorem dX8_scan_25 : decode cX8_scan 25 = .ok (.aload_n 0, 1) := by decide +kernel
theorem dX8_scan_26 : decode cX8_scan 26 = .ok (.invokevirtual 50, 3) := by decide +kernel
theorem dX8_scan_29 : decode cX8_scan 29 = .ok (.aload_n 0, 1) := by decide +kernel
theorem dX8_scan_30 : decode cX8_scan 30 = .ok (.getfield 19, 3) := by decide +kernel
theorem dX8_scan_33 : decode cX8_scan 33 = .ok (.aload_n 0, 1) := by decide +kernel
theorem dX8_scan_34 : decode cX8_scan 34 = .ok (.getfield 44, 3) := by decide +kernel
theorem dX8_scan_37 : decode cX8_scan 37 = .ok (.aload_n 0, 1) := by decide +kernel
theorem dX8_scan_38 : decode cX8_scan 38 = .ok (.getfield 47, 3) := by decide +kernel
theorem dX8_scan_41 : decode cX8_scan 41 = .ok (.iastore, 1) := by decide +kernel
theorem dX8_scan_42 : decode cX8_scan 42 = .ok (.aload_n 0, 1) := by decide +kernel
theorem dX8_scan_43 : decode cX8_scan 43 = .ok (.getfield 22, 3) := by decide +kernel
theorem dX8_scan_46 : decode cX8_scan 46 = .ok (.aload_n 0, 1) := by decide +kernel
theorem dX8_scan_47 : decode cX8_scan 47 = .ok (.getfield 44, 3) := by decide +kernel
theorem dX8_scan_50 : decode cX8_scan 50 = .ok (.lconst 0, 1) := by decide +kernel
theorem dX8_scan_51 : decode cX8_scan 51 = .ok (.lastore, 1) := by decide +kernel
theorem dX8_scan_52 : decode cX8_scan 52 = .ok (.aload_n 0, 1) := by decide +kernel
theorem dX8_scan_53 : decode cX8_scan 53 = .ok (.getfield 15, 3) := by decide +kernel
theorem dX8_scan_56 : decode cX8_scan 56 = .ok (.aload_n 0, 1) := by decide +kernel
theorem dX8_scan_57 : decode cX8_scan 57 = .ok (.getfield 44, 3) := by decide +kernel
theorem dX8_scan_60 : decode cX8_scan 60 = .ok (.aload_n 0, 1) := by decide +kernel
theorem dX8_scan_61 : decode cX8_scan 61 = .ok (.getfield 47, 3) := by decide +kernel
theorem dX8_scan_64 : decode cX8_scan 64 = .ok (.aload_n 0, 1) := by decide +kernel
theorem dX8_scan_65 : decode cX8_scan 65 = .ok (.getfield 41, 3) := by decide +kernel
theorem dX8_scan_68 : decode cX8_scan 68 = .ok (.if_icmp .lt 7, 3) := by decide +kernel
theorem dX8_scan_71 : decode cX8_scan 71 = .ok (.iconst 0, 1) := by decide +kernel
theorem dX8_scan_72 : decode cX8_scan 72 = .ok (.goto 43, 3) := by decide +kernel
theorem dX8_scan_75 : decode cX8_scan 75 = .ok (.aload_n 0, 1) := by decide +kernel
theorem dX8_scan_76 : decode cX8_scan 76 = .ok (.aload_n 0, 1) := by decide +kernel
theorem dX8_scan_77 : decode cX8_scan 77 = .ok (.getfield 47, 3) := by decide +kernel
theorem dX8_scan_80 : decode cX8_scan 80 = .ok (.invokevirtual 53, 3) := by decide +kernel
theorem dX8_scan_83 : decode cX8_scan 83 = .ok (.ifCond .eq 10, 3) := by decide +kernel
theorem dX8_scan_86 : decode cX8_scan 86 = .ok (.aload_n 0, 1) := by decide +kernel
theorem dX8_scan_87 : decode cX8_scan 87 = .ok (.invokevirtual 57, 3) := by decide +kernel
theorem dX8_scan_90 : decode cX8_scan 90 = .ok (.goto 25, 3) := by decide +kernel
theorem dX8_scan_93 : decode cX8_scan 93 = .ok (.aload_n 0, 1) := by decide +kernel
theorem dX8_scan_94 : decode cX8_scan 94 = .ok (.aload_n 0, 1) := by decide +kernel
theorem dX8_scan_95 : decode cX8_scan 95 = .ok (.getfield 47, 3) := by decide +kernel
theorem dX8_scan_98 : decode cX8_scan 98 = .ok (.invokevirtual 60, 3) := by decide +kernel
theorem dX8_scan_101 : decode cX8_scan 101 = .ok (.ifCond .eq 10, 3) := by decide +kernel
theorem dX8_scan_104 : decode cX8_scan 104 = .ok (.aload_n 0, 1) := by decide +kernel
theorem dX8_scan_105 : decode cX8_scan 105 = .ok (.invokevirtual 63, 3) := by decide +kernel
theorem dX8_scan_108 : decode cX8_scan 108 = .ok (.goto 7, 3) := by decide +kernel
theorem dX8_scan_111 : decode cX8_scan 111 = .ok (.aload_n 0, 1) := by decide +kernel
theorem dX8_scan_112 : decode cX8_scan 112 = .ok (.invokevirtual 66, 3) := by decide +kernel
theorem dX8_scan_115 : decode cX8_scan 115 = .ok (.iastore, 1) := by decide +kernel
theorem dX8_scan_116 : decode cX8_scan 116 = .ok (.aload_n 0, 1) := by decide +kernel
theorem dX8_scan_117 : decode cX8_scan 117 = .ok (.getfield 15, 3) := by decide +kernel
theorem dX8_scan_120 : decode cX8_scan 120 = .ok (.aload_n 0, 1) := by decide +kernel
theorem dX8_scan_121 : decode cX8_scan 121 = .ok (.getfield 44, 3) := by decide +kernel
theorem dX8_scan_124 : decode cX8_scan 124 = .ok (.iaload, 1) := by decide +kernel
theorem dX8_scan_125 : decode cX8_scan 125 = .ok (.ifCond .eq 20, 3) := by decide +kernel
theorem dX8_scan_128 : decode cX8_scan 128 = .ok (.aload_n 0, 1) := by decide +kernel
theorem dX8_scan_129 : decode cX8_scan 129 = .ok (.getfield 15, 3) := by decide +kernel
theorem dX8_scan_132 : decode cX8_scan 132 = .ok (.aload_n 0, 1) := by decide +kernel
theorem dX8_scan_133 : decode cX8_scan 133 = .ok (.getfield 44, 3) := by decide +kernel
theorem dX8_scan_136 : decode cX8_scan 136 = .ok (.iaload, 1) := by decide +kernel
theorem dX8_scan_137 : decode cX8_scan 137 = .ok (.iconst 1, 1) := by decide +kernel
theorem dX8_scan_138 : decode cX8_scan 138 = .ok (.if_icmp .eq 7, 3) := by decide +kernel
theorem dX8_scan_141 : decode cX8_scan 141 = .ok (.iconst 1, 1) := by decide +kernel
theorem dX8_scan_142 : decode cX8_scan 142 = .ok (.goto 4, 3) := by decide +kernel
theorem dX8_scan_145 : decode cX8_scan 145 = .ok (.iconst 0, 1) := by decide +kernel
theorem dX8_scan_146 : decode cX8_scan 146 = .ok (.istore_n 1, 1) := by decide +kernel
theorem dX8_scan_147 : decode cX8_scan 147 = .ok (.aload_n 0, 1) := by decide +kernel
theorem dX8_scan_148 : decode cX8_scan 148 = .ok (.dup, 1) := by decide +kernel
theorem dX8_scan_149 : decode cX8_scan 149 = .ok (.getfield 44, 3) := by decide +kernel
theorem dX8_scan_152 : decode cX8_scan 152 = .ok (.iconst 1, 1) := by decide +kernel
theorem dX8_scan_153 : decode cX8_scan 153 = .ok (.iadd, 1) := by decide +kernel
theorem dX8_scan_154 : decode cX8_scan 154 = .ok (.putfield 44, 3) := by decide +kernel
theorem dX8_scan_157 : decode cX8_scan 157 = .ok (.iinc 2 1, 3) := by decide +kernel
theorem dX8_scan_160 : decode cX8_scan 160 = .ok (.goto (-146), 3) := by decide +kernel
theorem dX8_scan_163 : decode cX8_scan 163 = .ok (.return_, 1) := by decide +kernel
theorem dX8_skipBlanks_0 : decode cX8_skipBlanks 0 = .ok (.aload_n 0, 1) := by decide +kernel
theorem dX8_skipBlanks_1 : decode cX8_skipBlanks 1 = .ok (.getfield 47, 3) := by decide +kernel
theorem dX8_skipBlanks_4 : decode cX8_skipBlanks 4 = .ok (.aload_n 0, 1) := by decide +kernel
theorem dX8_skipBlanks_5 : decode cX8_skipBlanks 5 = .ok (.getfield 41, 3) := by decide +kernel
theorem dX8_skipBlanks_8 : decode cX8_skipBlanks 8 = .ok (.if_icmp .ge 58, 3) := by decide +kernel
theorem dX8_skipBlanks_11 : decode cX8_skipBlanks 11 = .ok (.aload_n 0, 1) := by decide +kernel
theorem dX8_skipBlanks_12 : decode cX8_skipBlanks 12 = .ok (.getfield 9, 3) := by decide +kernel
theorem dX8_skipBlanks_15 : decode cX8_skipBlanks 15 = .ok (.aload_n 0, 1) := by decide +kernel
theorem dX8_skipBlanks_16 : decode cX8_skipBlanks 16 = .ok (.getfield 47, 3) := by decide +kernel
theorem dX8_skipBlanks_19 : decode cX8_skipBlanks 19 = .ok (.baload, 1) := by decide +kernel
theorem dX8_skipBlanks_20 : decode cX8_skipBlanks 20 = .ok (.bipush 10, 2) := by decide +kernel
theorem dX8_skipBlanks_22 : decode cX8_skipBlanks 22 = .ok (.if_icmp .eq 31, 3) := by decide +kernel
theorem dX8_skipBlanks_25 : decode cX8_skipBlanks 25 = .ok (.aload_n 0, 1) := by decide +kernel
theorem dX8_skipBlanks_26 : decode cX8_skipBlanks 26 = .ok (.getfield 9, 3) := by decide +kernel
theorem dX8_skipBlanks_29 : decode cX8_skipBlanks 29 = .ok (.aload_n 0, 1) := by decide +kernel
theorem dX8_skipBlanks_30 : decode cX8_skipBlanks 30 = .ok (.getfield 47, 3) := by decide +kernel
theorem dX8_skipBlanks_33 : decode cX8_skipBlanks 33 = .ok (.baload, 1) := by decide +kernel
theorem dX8_skipBlanks_34 : decode cX8_skipBlanks 34 = .ok (.bipush 13, 2) := by decide +kernel
theorem dX8_skipBlanks_36 : decode cX8_skipBlanks 36 = .ok (.if_icmp .eq 17, 3) := by decide +kernel
theorem dX8_skipBlanks_39 : decode cX8_skipBlanks 39 = .ok (.aload_n 0, 1) := by decide +kernel
theorem dX8_skipBlanks_40 : decode cX8_skipBlanks 40 = .ok (.getfield 9, 3) := by decide +kernel
theorem dX8_skipBlanks_43 : decode cX8_skipBlanks 43 = .ok (.aload_n 0, 1) := by decide +kernel
theorem dX8_skipBlanks_44 : decode cX8_skipBlanks 44 = .ok (.getfield 47, 3) := by decide +kernel
theorem dX8_skipBlanks_47 : decode cX8_skipBlanks 47 = .ok (.baload, 1) := by decide +kernel
theorem dX8_skipBlanks_48 : decode cX8_skipBlanks 48 = .ok (.bipush 32, 2) := by decide +kernel
theorem dX8_skipBlanks_50 : decode cX8_skipBlanks 50 = .ok (.if_icmp .ne 16, 3) := by decide +kernel
theorem dX8_skipBlanks_53 : decode cX8_skipBlanks 53 = .ok (.aload_n 0, 1) := by decide +kernel
theorem dX8_skipBlanks_54 : decode cX8_skipBlanks 54 = .ok (.dup, 1) := by decide +kernel
theorem dX8_skipBlanks_55 : decode cX8_skipBlanks 55 = .ok (.getfield 47, 3) := by decide +kernel
theorem dX8_skipBlanks_58 : decode cX8_skipBlanks 58 = .ok (.iconst 1, 1) := by decide +kernel
theorem dX8_skipBlanks_59 : decode cX8_skipBlanks 59 = .ok (.iadd, 1) := by decide +kernel
theorem dX8_skipBlanks_60 : decode cX8_skipBlanks 60 = .ok (.putfield 47, 3) := by decide +kernel
theorem dX8_skipBlanks_63 : decode cX8_skipBlanks 63 = .ok (.goto (-63), 3) := by decide +kernel
theorem dX8_skipBlanks_66 : decode cX8_skipBlanks 66 = .ok (.return_, 1) := by decide +kernel
theorem dX8_isLetter_0 : decode cX8_isLetter 0 = .ok (.iload_n 1, 1) := by decide +kernel
theorem dX8_isLetter_1 : decode cX8_isLetter 1 = .ok (.aload_n 0, 1) := by decide +kernel
theorem dX8_isLetter_2 : decode cX8_isLetter 2 = .ok (.getfield 41, 3) := by decide +kernel
theorem dX8_isLetter_5 : decode cX8_isLetter 5 = .ok (.if_icmp .ge 29, 3) := by decide +kernel
theorem dX8_isLetter_8 : decode cX8_isLetter 8 = .ok (.aload_n 0, 1) := by decide +kernel
theorem dX8_isLetter_9 : decode cX8_isLetter 9 = .ok (.getfield 9, 3) := by decide +kernel
theorem dX8_isLetter_12 : decode cX8_isLetter 12 = .ok (.iload_n 1, 1) := by decide +kernel
theorem dX8_isLetter_13 : decode cX8_isLetter 13 = .ok (.baload, 1) := by decide +kernel
theorem dX8_isLetter_14 : decode cX8_isLetter 14 = .ok (.bipush 97, 2) := by decide +kernel
theorem dX8_isLetter_16 : decode cX8_isLetter 16 = .ok (.if_icmp .lt 18, 3) := by decide +kernel
theorem dX8_isLetter_19 : decode cX8_isLetter 19 = .ok (.aload_n 0, 1) := by decide +kernel
theorem dX8_isLetter_20 : decode cX8_isLetter 20 = .ok (.getfield 9, 3) := by decide +kernel
theorem dX8_isLetter_23 : decode cX8_isLetter 23 = .ok (.iload_n 1, 1) := by decide +kernel
theorem dX8_isLetter_24 : decode cX8_isLetter 24 = .ok (.baload, 1) := by decide +kernel
theorem dX8_isLetter_25 : decode cX8_isLetter 25 = .ok (.bipush 122, 2) := by decide +kernel
theorem dX8_isLetter_27 : decode cX8_isLetter 27 = .ok (.if_icmp .gt 7, 3) := by decide +kernel
theorem dX8_isLetter_30 : decode cX8_isLetter 30 = .ok (.iconst 1, 1) := by decide +kernel
theorem dX8_isLetter_31 : decode cX8_isLetter 31 = .ok (.goto 4, 3) := by decide +kernel
theorem dX8_isLetter_34 : decode cX8_isLetter 34 = .ok (.iconst 0, 1) := by decide +kernel
theorem dX8_isLetter_35 : decode cX8_isLetter 35 = .ok (.ireturn, 1) := by decide +kernel
theorem dX8_isDigit_0 : decode cX8_isDigit 0 = .ok (.iload_n 1, 1) := by decide +kernel
theorem dX8_isDigit_1 : decode cX8_isDigit 1 = .ok (.aload_n 0, 1) := by decide +kernel
theorem dX8_isDigit_2 : decode cX8_isDigit 2 = .ok (.getfield 41, 3) := by decide +kernel
theorem dX8_isDigit_5 : decode cX8_isDigit 5 = .ok (.if_icmp .ge 29, 3) := by decide +kernel
theorem dX8_isDigit_8 : decode cX8_isDigit 8 = .ok (.aload_n 0, 1) := by decide +kernel
theorem dX8_isDigit_9 : decode cX8_isDigit 9 = .ok (.getfield 9, 3) := by decide +kernel
theorem dX8_isDigit_12 : decode cX8_isDigit 12 = .ok (.iload_n 1, 1) := by decide +kernel
theorem dX8_isDigit_13 : decode cX8_isDigit 13 = .ok (.baload, 1) := by decide +kernel
theorem dX8_isDigit_14 : decode cX8_isDigit 14 = .ok (.bipush 48, 2) := by decide +kernel
theorem dX8_isDigit_16 : decode cX8_isDigit 16 = .ok (.if_icmp .lt 18, 3) := by decide +kernel
theorem dX8_isDigit_19 : decode cX8_isDigit 19 = .ok (.aload_n 0, 1) := by decide +kernel
theorem dX8_isDigit_20 : decode cX8_isDigit 20 = .ok (.getfield 9, 3) := by decide +kernel
theorem dX8_isDigit_23 : decode cX8_isDigit 23 = .ok (.iload_n 1, 1) := by decide +kernel
theorem dX8_isDigit_24 : decode cX8_isDigit 24 = .ok (.baload, 1) := by decide +kernel
theorem dX8_isDigit_25 : decode cX8_isDigit 25 = .ok (.bipush 57, 2) := by decide +kernel
theorem dX8_isDigit_27 : decode cX8_isDigit 27 = .ok (.if_icmp .gt 7, 3) := by decide +kernel
theorem dX8_isDigit_30 : decode cX8_isDigit 30 = .ok (.iconst 1, 1) := by decide +kernel
theorem dX8_isDigit_31 : decode cX8_isDigit 31 = .ok (.goto 4, 3) := by decide +kernel
theorem dX8_isDigit_34 : decode cX8_isDigit 34 = .ok (.iconst 0, 1) := by decide +kernel
theorem dX8_isDigit_35 : decode cX8_isDigit 35 = .ok (.ireturn, 1) := by decide +kernel
theorem dX8_wordHere_0 : decode cX8_wordHere 0 = .ok (.aload_n 0, 1) := by decide +kernel
theorem dX8_wordHere_1 : decode cX8_wordHere 1 = .ok (.getfield 47, 3) := by decide +kernel
theorem dX8_wordHere_4 : decode cX8_wordHere 4 = .ok (.istore_n 1, 1) := by decide +kernel
theorem dX8_wordHere_5 : decode cX8_wordHere 5 = .ok (.lconst 0, 1) := by decide +kernel
theorem dX8_wordHere_6 : decode cX8_wordHere 6 = .ok (.lstore_n 2, 1) := by decide +kernel
theorem dX8_wordHere_7 : decode cX8_wordHere 7 = .ok (.aload_n 0, 1) := by decide +kernel
theorem dX8_wordHere_8 : decode cX8_wordHere 8 = .ok (.getfield 47, 3) := by decide +kernel
theorem dX8_wordHere_11 : decode cX8_wordHere 11 = .ok (.aload_n 0, 1) := by decide +kernel
theorem dX8_wordHere_12 : decode cX8_wordHere 12 = .ok (.getfield 41, 3) := by decide +kernel
theorem dX8_wordHere_15 : decode cX8_wordHere 15 = .ok (.if_icmp .ge 54, 3) := by decide +kernel
theorem dX8_wordHere_18 : decode cX8_wordHere 18 = .ok (.aload_n 0, 1) := by decide +kernel
theorem dX8_wordHere_19 : decode cX8_wordHere 19 = .ok (.aload_n 0, 1) := by decide +kernel
theorem dX8_wordHere_20 : decode cX8_wordHere 20 = .ok (.getfield 47, 3) := by decide +kernel
theorem dX8_wordHere_23 : decode cX8_wordHere 23 = .ok (.invokevirtual 53, 3) := by decide +kernel
theorem dX8_wordHere_26 : decode cX8_wordHere 26 = .ok (.ifCond .ne 14, 3) := by decide +kernel
theorem dX8_wordHere_29 : decode cX8_wordHere 29 = .ok (.aload_n 0, 1) := by decide +kernel
theorem dX8_wordHere_30 : decode cX8_wordHere 30 = .ok (.aload_n 0, 1) := by decide +kernel
theorem dX8_wordHere_31 : decode cX8_wordHere 31 = .ok (.getfield 47, 3) := by decide +kernel
theorem dX8_wordHere_34 : decode cX8_wordHere 34 = .ok (.invokevirtual 60, 3) := by decide +kernel
theorem dX8_wordHere_37 : decode cX8_wordHere 37 = .ok (.ifCond .eq 32, 3) := by decide +kernel
theorem dX8_wordHere_40 : decode cX8_wordHere 40 = .ok (.lload_n 2, 1) := by decide +kernel
theorem dX8_wordHere_41 : decode cX8_wordHere 41 = .ok (.bipush 8, 2) := by decide +kernel
theorem dX8_wordHere_43 : decode cX8_wordHere 43 = .ok (.lshl, 1) := by decide +kernel
theorem dX8_wordHere_44 : decode cX8_wordHere 44 = .ok (.aload_n 0, 1) := by decide +kernel
theorem dX8_wordHere_45 : decode cX8_wordHere 45 = .ok (.getfield 9, 3) := by decide +kernel
theorem dX8_wordHere_48 : decode cX8_wordHere 48 = .ok (.aload_n 0, 1) := by decide +kernel
theorem dX8_wordHere_49 : decode cX8_wordHere 49 = .ok (.getfield 47, 3) := by decide +kernel
theorem dX8_wordHere_52 : decode cX8_wordHere 52 = .ok (.baload, 1) := by decide +kernel
theorem dX8_wordHere_53 : decode cX8_wordHere 53 = .ok (.i2l, 1) := by decide +kernel
theorem dX8_wordHere_54 : decode cX8_wordHere 54 = .ok (.lor, 1) := by decide +kernel
theorem dX8_wordHere_55 : decode cX8_wordHere 55 = .ok (.lstore_n 2, 1) := by decide +kernel
theorem dX8_wordHere_56 : decode cX8_wordHere 56 = .ok (.aload_n 0, 1) := by decide +kernel
theorem dX8_wordHere_57 : decode cX8_wordHere 57 = .ok (.dup, 1) := by decide +kernel
theorem dX8_wordHere_58 : decode cX8_wordHere 58 = .ok (.getfield 47, 3) := by decide +kernel
theorem dX8_wordHere_61 : decode cX8_wordHere 61 = .ok (.iconst 1, 1) := by decide +kernel
theorem dX8_wordHere_62 : decode cX8_wordHere 62 = .ok (.iadd, 1) := by decide +kernel
theorem dX8_wordHere_63 : decode cX8_wordHere 63 = .ok (.putfield 47, 3) := by decide +kernel
theorem dX8_wordHere_66 : decode cX8_wordHere 66 = .ok (.goto (-59), 3) := by decide +kernel
theorem dX8_wordHere_69 : decode cX8_wordHere 69 = .ok (.aload_n 0, 1) := by decide +kernel
theorem dX8_wordHere_70 : decode cX8_wordHere 70 = .ok (.getfield 47, 3) := by decide +kernel
theorem dX8_wordHere_73 : decode cX8_wordHere 73 = .ok (.iload_n 1, 1) := by decide +kernel
theorem dX8_wordHere_74 : decode cX8_wordHere 74 = .ok (.isub, 1) := by decide +kernel
theorem dX8_wordHere_75 : decode cX8_wordHere 75 = .ok (.bipush 8, 2) := by decide +kernel
theorem dX8_wordHere_77 : decode cX8_wordHere 77 = .ok (.if_icmp .le 5, 3) := by decide +kernel
theorem dX8_wordHere_80 : decode cX8_wordHere 80 = .ok (.iconst 1, 1) := by decide +kernel
theorem dX8_wordHere_81 : decode cX8_wordHere 81 = .ok (.ireturn, 1) := by decide +kernel
theorem dX8_wordHere_82 : decode cX8_wordHere 82 = .ok (.aload_n 0, 1) := by decide +kernel
theorem dX8_wordHere_83 : decode cX8_wordHere 83 = .ok (.getfield 22, 3) := by decide +kernel
theorem dX8_wordHere_86 : decode cX8_wordHere 86 = .ok (.aload_n 0, 1) := by decide +kernel
theorem dX8_wordHere_87 : decode cX8_wordHere 87 = .ok (.getfield 44, 3) := by decide +kernel
theorem dX8_wordHere_90 : decode cX8_wordHere 90 = .ok (.lload_n 2, 1) := by decide +kernel
theorem dX8_wordHere_91 : decode cX8_wordHere 91 = .ok (.lastore, 1) := by decide +kernel
theorem dX8_wordHere_92 : decode cX8_wordHere 92 = .ok (.iconst 0, 1) := by decide +kernel
theorem dX8_wordHere_93 : decode cX8_wordHere 93 = .ok (.istore 4, 2) := by decide +kernel
theorem dX8_wordHere_95 : decode cX8_wordHere 95 = .ok (.iload 4, 2) := by decide +kernel
theorem dX8_wordHere_97 : decode cX8_wordHere 97 = .ok (.bipush 28, 2) := by decide +kernel
theorem dX8_wordHere_99 : decode cX8_wordHere 99 = .ok (.if_icmp .ge 28, 3) := by decide +kernel
theorem dX8_wordHere_102 : decode cX8_wordHere 102 = .ok (.aload_n 0, 1) := by decide +kernel
theorem dX8_wordHere_103 : decode cX8_wordHere 103 = .ok (.getfield 26, 3) := by decide +kernel
theorem dX8_wordHere_106 : decode cX8_wordHere 106 = .ok (.iload 4, 2) := by decide +kernel
theorem dX8_wordHere_108 : decode cX8_wordHere 108 = .ok (.laload, 1) := by decide +kernel
theorem dX8_wordHere_109 : decode cX8_wordHere 109 = .ok (.lload_n 2, 1) := by decide +kernel
theorem dX8_wordHere_110 : decode cX8_wordHere 110 = .ok (.lcmp, 1) := by decide +kernel
theorem dX8_wordHere_111 : decode cX8_wordHere 111 = .ok (.ifCond .ne 10, 3) := by decide +kernel
theorem dX8_wordHere_114 : decode cX8_wordHere 114 = .ok (.sipush 200, 3) := by decide +kernel
theorem dX8_wordHere_117 : decode cX8_wordHere 117 = .ok (.iload 4, 2) := by decide +kernel
theorem dX8_wordHere_119 : decode cX8_wordHere 119 = .ok (.iadd, 1) := by decide +kernel
theorem dX8_wordHere_120 : decode cX8_wordHere 120 = .ok (.ireturn, 1) := by decide +kernel
theorem dX8_wordHere_121 : decode cX8_wordHere 121 = .ok (.iinc 4 1, 3) := by decide +kernel
theorem dX8_wordHere_124 : decode cX8_wordHere 124 = .ok (.goto (-29), 3) := by decide +kernel
theorem dX8_wordHere_127 : decode cX8_wordHere 127 = .ok (.iconst 3, 1) := by decide +kernel
theorem dX8_wordHere_128 : decode cX8_wordHere 128 = .ok (.ireturn, 1) := by decide +kernel
theorem dX8_numberHere_0 : decode cX8_numberHere 0 = .ok (.aload_n 0, 1) := by decide +kernel
theorem dX8_numberHere_1 : decode cX8_numberHere 1 = .ok (.getfield 47, 3) := by decide +kernel
theorem dX8_numberHere_4 : decode cX8_numberHere 4 = .ok (.istore_n 1, 1) := by decide +kernel
theorem dX8_numberHere_5 : decode cX8_numberHere 5 = .ok (.lconst 0, 1) := by decide +kernel
theorem dX8_numberHere_6 : decode cX8_numberHere 6 = .ok (.lstore_n 2, 1) := by decide +kernel
theorem dX8_numberHere_7 : decode cX8_numberHere 7 = .ok (.aload_n 0, 1) := by decide +kernel
theorem dX8_numberHere_8 : decode cX8_numberHere 8 = .ok (.getfield 47, 3) := by decide +kernel
theorem dX8_numberHere_11 : decode cX8_numberHere 11 = .ok (.aload_n 0, 1) := by decide +kernel
theorem dX8_numberHere_12 : decode cX8_numberHere 12 = .ok (.getfield 41, 3) := by decide +kernel
theorem dX8_numberHere_15 : decode cX8_numberHere 15 = .ok (.if_icmp .ge 47, 3) := by decide +kernel
theorem dX8_numberHere_18 : decode cX8_numberHere 18 = .ok (.aload_n 0, 1) := by decide +kernel
theorem dX8_numberHere_19 : decode cX8_numberHere 19 = .ok (.aload_n 0, 1) := by decide +kernel
theorem dX8_numberHere_20 : decode cX8_numberHere 20 = .ok (.getfield 47, 3) := by decide +kernel
theorem dX8_numberHere_23 : decode cX8_numberHere 23 = .ok (.invokevirtual 60, 3) := by decide +kernel
theorem dX8_numberHere_26 : decode cX8_numberHere 26 = .ok (.ifCond .eq 36, 3) := by decide +kernel
theorem dX8_numberHere_29 : decode cX8_numberHere 29 = .ok (.lload_n 2, 1) := by decide +kernel
theorem dX8_numberHere_30 : decode cX8_numberHere 30 = .ok (.ldc2_w 69, 3) := by decide +kernel
theorem dX8_numberHere_33 : decode cX8_numberHere 33 = .ok (.lmul, 1) := by decide +kernel
theorem dX8_numberHere_34 : decode cX8_numberHere 34 = .ok (.aload_n 0, 1) := by decide +kernel
theorem dX8_numberHere_35 : decode cX8_numberHere 35 = .ok (.getfield 9, 3) := by decide +kernel
theorem dX8_numberHere_38 : decode cX8_numberHere 38 = .ok (.aload_n 0, 1) := by decide +kernel
theorem dX8_numberHere_39 : decode cX8_numberHere 39 = .ok (.getfield 47, 3) := by decide +kernel
theorem dX8_numberHere_42 : decode cX8_numberHere 42 = .ok (.baload, 1) := by decide +kernel
theorem dX8_numberHere_43 : decode cX8_numberHere 43 = .ok (.bipush 48, 2) := by decide +kernel
theorem dX8_numberHere_45 : decode cX8_numberHere 45 = .ok (.isub, 1) := by decide +kernel
theorem dX8_numberHere_46 : decode cX8_numberHere 46 = .ok (.i2l, 1) := by decide +kernel
theorem dX8_numberHere_47 : decode cX8_numberHere 47 = .ok (.ladd, 1) := by decide +kernel
theorem dX8_numberHere_48 : decode cX8_numberHere 48 = .ok (.lstore_n 2, 1) := by decide +kernel
theorem dX8_numberHere_49 : decode cX8_numberHere 49 = .ok (.aload_n 0, 1) := by decide +kernel
theorem dX8_numberHere_50 : decode cX8_numberHere 50 = .ok (.dup, 1) := by decide +kernel
theorem dX8_numberHere_51 : decode cX8_numberHere 51 = .ok (.getfield 47, 3) := by decide +kernel
theorem dX8_numberHere_54 : decode cX8_numberHere 54 = .ok (.iconst 1, 1) := by decide +kernel
theorem dX8_numberHere_55 : decode cX8_numberHere 55 = .ok (.iadd, 1) := by decide +kernel
theorem dX8_numberHere_56 : decode cX8_numberHere 56 = .ok (.putfield 47, 3) := by decide +kernel
theorem dX8_numberHere_59 : decode cX8_numberHere 59 = .ok (.goto (-52), 3) := by decide +kernel
theorem dX8_numberHere_62 : decode cX8_numberHere 62 = .ok (.aload_n 0, 1) := by decide +kernel
theorem dX8_numberHere_63 : decode cX8_numberHere 63 = .ok (.getfield 47, 3) := by decide +kernel
theorem dX8_numberHere_66 : decode cX8_numberHere 66 = .ok (.iload_n 1, 1) := by decide +kernel
theorem dX8_numberHere_67 : decode cX8_numberHere 67 = .ok (.isub, 1) := by decide +kernel
theorem dX8_numberHere_68 : decode cX8_numberHere 68 = .ok (.bipush 9, 2) := by decide +kernel
theorem dX8_numberHere_70 : decode cX8_numberHere 70 = .ok (.if_icmp .gt 14, 3) := by decide +kernel
theorem dX8_numberHere_73 : decode cX8_numberHere 73 = .ok (.aload_n 0, 1) := by decide +kernel
theorem dX8_numberHere_74 : decode cX8_numberHere 74 = .ok (.aload_n 0, 1) := by decide +kernel
theorem dX8_numberHere_75 : decode cX8_numberHere 75 = .ok (.getfield 47, 3) := by decide +kernel
theorem dX8_numberHere_78 : decode cX8_numberHere 78 = .ok (.invokevirtual 53, 3) := by decide +kernel
theorem dX8_numberHere_81 : decode cX8_numberHere 81 = .ok (.ifCond .eq 5, 3) := by decide +kernel
theorem dX8_numberHere_84 : decode cX8_numberHere 84 = .ok (.iconst 1, 1) := by decide +kernel
theorem dX8_numberHere_85 : decode cX8_numberHere 85 = .ok (.ireturn, 1) := by decide +kernel
theorem dX8_numberHere_86 : decode cX8_numberHere 86 = .ok (.aload_n 0, 1) := by decide +kernel
theorem dX8_numberHere_87 : decode cX8_numberHere 87 = .ok (.getfield 22, 3) := by decide +kernel
theorem dX8_numberHere_90 : decode cX8_numberHere 90 = .ok (.aload_n 0, 1) := by decide +kernel
theorem dX8_numberHere_91 : decode cX8_numberHere 91 = .ok (.getfield 44, 3) := by decide +kernel
theorem dX8_numberHere_94 : decode cX8_numberHere 94 = .ok (.lload_n 2, 1) := by decide +kernel
theorem dX8_numberHere_95 : decode cX8_numberHere 95 = .ok (.lastore, 1) := by decide +kernel
theorem dX8_numberHere_96 : decode cX8_numberHere 96 = .ok (.iconst 4, 1) := by decide +kernel
theorem dX8_numberHere_97 : decode cX8_numberHere 97 = .ok (.ireturn, 1) := by decide +kernel
theorem dX8_signHere_0 : decode cX8_signHere 0 = .ok (.aload_n 0, 1) := by decide +kernel
theorem dX8_signHere_1 : decode cX8_signHere 1 = .ok (.getfield 9, 3) := by decide +kernel
theorem dX8_signHere_4 : decode cX8_signHere 4 = .ok (.aload_n 0, 1) := by decide +kernel
theorem dX8_signHere_5 : decode cX8_signHere 5 = .ok (.getfield 47, 3) := by decide +kernel
theorem dX8_signHere_8 : decode cX8_signHere 8 = .ok (.baload, 1) := by decide +kernel
theorem dX8_signHere_9 : decode cX8_signHere 9 = .ok (.istore_n 1, 1) := by decide +kernel
theorem dX8_signHere_10 : decode cX8_signHere 10 = .ok (.aload_n 0, 1) := by decide +kernel
theorem dX8_signHere_11 : decode cX8_signHere 11 = .ok (.getfield 47, 3) := by decide +kernel
theorem dX8_signHere_14 : decode cX8_signHere 14 = .ok (.iconst 1, 1) := by decide +kernel
theorem dX8_signHere_15 : decode cX8_signHere 15 = .ok (.iadd, 1) := by decide +kernel
theorem dX8_signHere_16 : decode cX8_signHere 16 = .ok (.aload_n 0, 1) := by decide +kernel
theorem dX8_signHere_17 : decode cX8_signHere 17 = .ok (.getfield 41, 3) := by decide +kernel
theorem dX8_signHere_20 : decode cX8_signHere 20 = .ok (.if_icmp .ge 23, 3) := by decide +kernel
theorem dX8_signHere_23 : decode cX8_signHere 23 = .ok (.aload_n 0, 1) := by decide +kernel
theorem dX8_signHere_24 : decode cX8_signHere 24 = .ok (.getfield 9, 3) := by decide +kernel
theorem dX8_signHere_27 : decode cX8_signHere 27 = .ok (.aload_n 0, 1) := by decide +kernel
theorem dX8_signHere_28 : decode cX8_signHere 28 = .ok (.getfield 47, 3) := by decide +kernel
theorem dX8_signHere_31 : decode cX8_signHere 31 = .ok (.iconst 1, 1) := by decide +kernel
theorem dX8_signHere_32 : decode cX8_signHere 32 = .ok (.iadd, 1) := by decide +kernel
theorem dX8_signHere_33 : decode cX8_signHere 33 = .ok (.baload, 1) := by decide +kernel
theorem dX8_signHere_34 : decode cX8_signHere 34 = .ok (.bipush 61, 2) := by decide +kernel
theorem dX8_signHere_36 : decode cX8_signHere 36 = .ok (.if_icmp .ne 7, 3) := by decide +kernel
theorem dX8_signHere_39 : decode cX8_signHere 39 = .ok (.iconst 1, 1) := by decide +kernel
theorem dX8_signHere_40 : decode cX8_signHere 40 = .ok (.goto 4, 3) := by decide +kernel
theorem dX8_signHere_43 : decode cX8_signHere 43 = .ok (.iconst 0, 1) := by decide +kernel
theorem dX8_signHere_44 : decode cX8_signHere 44 = .ok (.istore_n 2, 1) := by decide +kernel
theorem dX8_signHere_45 : decode cX8_signHere 45 = .ok (.aload_n 0, 1) := by decide +kernel
theorem dX8_signHere_46 : decode cX8_signHere 46 = .ok (.dup, 1) := by decide +kernel
theorem dX8_signHere_47 : decode cX8_signHere 47 = .ok (.getfield 47, 3) := by decide +kernel
theorem dX8_signHere_50 : decode cX8_signHere 50 = .ok (.iconst 1, 1) := by decide +kernel
theorem dX8_signHere_51 : decode cX8_signHere 51 = .ok (.iadd, 1) := by decide +kernel
theorem dX8_signHere_52 : decode cX8_signHere 52 = .ok (.putfield 47, 3) := by decide +kernel
theorem dX8_signHere_55 : decode cX8_signHere 55 = .ok (.iload_n 2, 1) := by decide +kernel
theorem dX8_signHere_56 : decode cX8_signHere 56 = .ok (.ifCond .eq 59, 3) := by decide +kernel
theorem dX8_signHere_59 : decode cX8_signHere 59 = .ok (.iload_n 1, 1) := by decide +kernel
theorem dX8_signHere_60 : decode cX8_signHere 60 = .ok (.bipush 60, 2) := by decide +kernel
theorem dX8_signHere_62 : decode cX8_signHere 62 = .ok (.if_icmp .eq 15, 3) := by decide +kernel
theorem dX8_signHere_65 : decode cX8_signHere 65 = .ok (.iload_n 1, 1) := by decide +kernel
theorem dX8_signHere_66 : decode cX8_signHere 66 = .ok (.bipush 61, 2) := by decide +kernel
theorem dX8_signHere_68 : decode cX8_signHere 68 = .ok (.if_icmp .eq 9, 3) := by decide +kernel
theorem dX8_signHere_71 : decode cX8_signHere 71 = .ok (.iload_n 1, 1) := by decide +kernel
theorem dX8_signHere_72 : decode cX8_signHere 72 = .ok (.bipush 33, 2) := by decide +kernel
theorem dX8_signHere_74 : decode cX8_signHere 74 = .ok (.if_icmp .ne 41, 3) := by decide +kernel
theorem dX8_signHere_77 : decode cX8_signHere 77 = .ok (.aload_n 0, 1) := by decide +kernel
theorem dX8_signHere_78 : decode cX8_signHere 78 = .ok (.dup, 1) := by decide +kernel
theorem dX8_signHere_79 : decode cX8_signHere 79 = .ok (.getfield 47, 3) := by decide +kernel
theorem dX8_signHere_82 : decode cX8_signHere 82 = .ok (.iconst 1, 1) := by decide +kernel
theorem dX8_signHere_83 : decode cX8_signHere 83 = .ok (.iadd, 1) := by decide +kernel
theorem dX8_signHere_84 : decode cX8_signHere 84 = .ok (.putfield 47, 3) := by decide +kernel
theorem dX8_signHere_87 : decode cX8_signHere 87 = .ok (.iload_n 1, 1) := by decide +kernel
theorem dX8_signHere_88 : decode cX8_signHere 88 = .ok (.bipush 60, 2) := by decide +kernel
theorem dX8_signHere_90 : decode cX8_signHere 90 = .ok (.if_icmp .ne 9, 3) := by decide +kernel
theorem dX8_signHere_93 : decode cX8_signHere 93 = .ok (.sipush 128, 3) := by decide +kernel
theorem dX8_signHere_96 : decode cX8_signHere 96 = .ok (.goto 18, 3) := by decide +kernel
theorem dX8_signHere_99 : decode cX8_signHere 99 = .ok (.iload_n 1, 1) := by decide +kernel
theorem dX8_signHere_100 : decode cX8_signHere 100 = .ok (.bipush 61, 2) := by decide +kernel
theorem dX8_signHere_102 : decode cX8_signHere 102 = .ok (.if_icmp .ne 9, 3) := by decide +kernel
theorem dX8_signHere_105 : decode cX8_signHere 105 = .ok (.sipush 129, 3) := by decide +kernel
theorem dX8_signHere_108 : decode cX8_signHere 108 = .ok (.goto 6, 3) := by decide +kernel
theorem dX8_signHere_111 : decode cX8_signHere 111 = .ok (.sipush 130, 3) := by decide +kernel
theorem dX8_signHere_114 : decode cX8_signHere 114 = .ok (.ireturn, 1) := by decide +kernel
theorem dX8_signHere_115 : decode cX8_signHere 115 = .ok (.iload_n 1, 1) := by decide +kernel
theorem dX8_signHere_116 : decode cX8_signHere 116 = .ok (.ifCond .le 17, 3) := by decide +kernel
theorem dX8_signHere_119 : decode cX8_signHere 119 = .ok (.ldc 71, 2) := by decide +kernel
theorem dX8_signHere_121 : decode cX8_signHere 121 = .ok (.iload_n 1, 1) := by decide +kernel
theorem dX8_signHere_122 : decode cX8_signHere 122 = .ok (.i2c, 1) := by decide +kernel
theorem dX8_signHere_123 : decode cX8_signHere 123 = .ok (.invokevirtual 73, 3) := by decide +kernel
theorem dX8_signHere_126 : decode cX8_signHere 126 = .ok (.ifCond .lt 7, 3) := by decide +kernel
theorem dX8_signHere_129 : decode cX8_signHere 129 = .ok (.iload_n 1, 1) := by decide +kernel
theorem dX8_signHere_130 : decode cX8_signHere 130 = .ok (.goto 4, 3) := by decide +kernel
theorem dX8_signHere_133 : decode cX8_signHere 133 = .ok (.iconst 1, 1) := by decide +kernel
theorem dX8_signHere_134 : decode cX8_signHere 134 = .ok (.ireturn, 1) := by decide +kernel
theorem dX9_init_0 : decode cX9_init 0 = .ok (.aload_n 0, 1) := by decide +kernel
theorem dX9_init_1 : decode cX9_init 1 = .ok (.invokespecial 3, 3) := by decide +kernel
theorem dX9_init_4 : decode cX9_init 4 = .ok (.aload_n 0, 1) := by decide +kernel
theorem dX9_init_5 : decode cX9_init 5 = .ok (.bipush (-2), 2) := by decide +kernel
theorem dX9_init_7 : decode cX9_init 7 = .ok (.putfield 9, 3) := by decide +kernel
theorem dX9_init_10 : decode cX9_init 10 = .ok (.aload_n 0, 1) := by decide +kernel
theorem dX9_init_11 : decode cX9_init 11 = .ok (.bipush 32, 2) := by decide +kernel
theorem dX9_init_13 : decode cX9_init 13 = .ok (.newarray .int, 2) := by decide +kernel
theorem dX9_init_15 : decode cX9_init 15 = .ok (.putfield 15, 3) := by decide +kernel
theorem dX9_init_18 : decode cX9_init 18 = .ok (.aload_n 0, 1) := by decide +kernel
theorem dX9_init_19 : decode cX9_init 19 = .ok (.sipush 200, 3) := by decide +kernel
theorem dX9_init_22 : decode cX9_init 22 = .ok (.newarray .int, 2) := by decide +kernel
theorem dX9_init_24 : decode cX9_init 24 = .ok (.putfield 19, 3) := by decide +kernel
theorem dX9_init_27 : decode cX9_init 27 = .ok (.aload_n 0, 1) := by decide +kernel
theorem dX9_init_28 : decode cX9_init 28 = .ok (.bipush 50, 2) := by decide +kernel
theorem dX9_init_30 : decode cX9_init 30 = .ok (.newarray .int, 2) := by decide +kernel
theorem dX9_init_32 : decode cX9_init 32 = .ok (.putfield 22, 3) := by decide +kernel
theorem dX9_init_35 : decode cX9_init 35 = .ok (.return_, 1) := by decide +kernel
theorem dX9_begin_0 : decode cX9_begin 0 = .ok (.aload_n 0, 1) := by decide +kernel
theorem dX9_begin_1 : decode cX9_begin 1 = .ok (.iload_n 1, 1) := by decide +kernel
theorem dX9_begin_2 : decode cX9_begin 2 = .ok (.putfield 9, 3) := by decide +kernel
theorem dX9_begin_5 : decode cX9_begin 5 = .ok (.aload_n 0, 1) := by decide +kernel
theorem dX9_begin_6 : decode cX9_begin 6 = .ok (.iload_n 2, 1) := by decide +kernel
theorem dX9_begin_7 : decode cX9_begin 7 = .ok (.putfield 25, 3) := by decide +kernel
theorem dX9_begin_10 : decode cX9_begin 10 = .ok (.aload_n 0, 1) := by decide +kernel
theorem dX9_begin_11 : decode cX9_begin 11 = .ok (.iload_n 3, 1) := by decide +kernel
theorem dX9_begin_12 : decode cX9_begin 12 = .ok (.putfield 28, 3) := by decide +kernel
theorem dX9_begin_15 : decode cX9_begin 15 = .ok (.aload_n 0, 1) := by decide +kernel
theorem dX9_begin_16 : decode cX9_begin 16 = .ok (.iload 4, 2) := by decide +kernel
theorem dX9_begin_18 : decode cX9_begin 18 = .ok (.putfield 31, 3) := by decide +kernel
theorem dX9_begin_21 : decode cX9_begin 21 = .ok (.aload_n 0, 1) := by decide +kernel
theorem dX9_begin_22 : decode cX9_begin 22 = .ok (.iconst 0, 1) := by decide +kernel
theorem dX9_begin_23 : decode cX9_begin 23 = .ok (.putfield 34, 3) := by decide +kernel
theorem dX9_begin_26 : decode cX9_begin 26 = .ok (.aload_n 0, 1) := by decide +kernel
theorem dX9_begin_27 : decode cX9_begin 27 = .ok (.iconst 0, 1) := by decide +kernel
theorem dX9_begin_28 : decode cX9_begin 28 = .ok (.putfield 37, 3) := by decide +kernel
theorem dX9_begin_31 : decode cX9_begin 31 = .ok (.return_, 1) := by decide +kernel
theorem dX9_standsFor_0 : decode cX9_standsFor 0 = .ok (.aload_n 0, 1) := by decide +kernel
theorem dX9_standsFor_1 : decode cX9_standsFor 1 = .ok (.getfield 9, 3) := by decide +kernel
theorem dX9_standsFor_4 : decode cX9_standsFor 4 = .ok (.ifCond .lt 23, 3) := by decide +kernel
theorem dX9_standsFor_7 : decode cX9_standsFor 7 = .ok (.aload_n 0, 1) := by decide +kernel
theorem dX9_standsFor_8 : decode cX9_standsFor 8 = .ok (.getfield 25, 3) := by decide +kernel
theorem dX9_standsFor_11 : decode cX9_standsFor 11 = .ok (.iload_n 1, 1) := by decide +kernel
theorem dX9_standsFor_12 : decode cX9_standsFor 12 = .ok (.if_icmp .ne 15, 3) := by decide +kernel
theorem dX9_standsFor_15 : decode cX9_standsFor 15 = .ok (.aload_n 0, 1) := by decide +kernel
theorem dX9_standsFor_16 : decode cX9_standsFor 16 = .ok (.getfield 28, 3) := by decide +kernel
theorem dX9_standsFor_19 : decode cX9_standsFor 19 = .ok (.iload_n 2, 1) := by decide +kernel
theorem dX9_standsFor_20 : decode cX9_standsFor 20 = .ok (.if_icmp .ne 7, 3) := by decide +kernel
theorem dX9_standsFor_23 : decode cX9_standsFor 23 = .ok (.iconst 1, 1) := by decide +kernel
theorem dX9_standsFor_24 : decode cX9_standsFor 24 = .ok (.goto 4, 3) := by decide +kernel
theorem dX9_standsFor_27 : decode cX9_standsFor 27 = .ok (.iconst 0, 1) := by decide +kernel
theorem dX9_standsFor_28 : decode cX9_standsFor 28 = .ok (.ireturn, 1) := by decide +kernel
theorem dX9_addRule_0 : decode cX9_addRule 0 = .ok (.aload_n 0, 1) := by decide +kernel
theorem dX9_addRule_1 : decode cX9_addRule 1 = .ok (.getfield 34, 3) := by decide +kernel
theorem dX9_addRule_4 : decode cX9_addRule 4 = .ok (.iconst 4, 1) := by decide +kernel
theorem dX9_addRule_5 : decode cX9_addRule 5 = .ok (.imul, 1) := by decide +kernel
theorem dX9_addRule_6 : decode cX9_addRule 6 = .ok (.istore 5, 2) := by decide +kernel
theorem dX9_addRule_8 : decode cX9_addRule 8 = .ok (.aload_n 0, 1) := by decide +kernel
theorem dX9_addRule_9 : decode cX9_addRule 9 = .ok (.getfield 15, 3) := by decide +kernel
theorem dX9_addRule_12 : decode cX9_addRule 12 = .ok (.iload 5, 2) := by decide +kernel
theorem dX9_addRule_14 : decode cX9_addRule 14 = .ok (.iconst 0, 1) := by decide +kernel
theorem dX9_addRule_15 : decode cX9_addRule 15 = .ok (.iadd, 1) := by decide +kernel
theorem dX9_addRule_16 : decode cX9_addRule 16 = .ok (.iload_n 1, 1) := by decide +kernel
theorem dX9_addRule_17 : decode cX9_addRule 17 = .ok (.iastore, 1) := by decide +kernel
theorem dX9_addRule_18 : decode cX9_addRule 18 = .ok (.aload_n 0, 1) := by decide +kernel
theorem dX9_addRule_19 : decode cX9_addRule 19 = .ok (.getfield 15, 3) := by decide +kernel
theorem dX9_addRule_22 : decode cX9_addRule 22 = .ok (.iload 5, 2) := by decide +kernel
theorem dX9_addRule_24 : decode cX9_addRule 24 = .ok (.iconst 1, 1) := by decide +kernel
theorem dX9_addRule_25 : decode cX9_addRule 25 = .ok (.iadd, 1) := by decide +kernel
theorem dX9_addRule_26 : decode cX9_addRule 26 = .ok (.iload_n 2, 1) := by decide +kernel
theorem dX9_addRule_27 : decode cX9_addRule 27 = .ok (.iastore, 1) := by decide +kernel
theorem dX9_addRule_28 : decode cX9_addRule 28 = .ok (.aload_n 0, 1) := by decide +kernel
theorem dX9_addRule_29 : decode cX9_addRule 29 = .ok (.getfield 15, 3) := by decide +kernel
theorem dX9_addRule_32 : decode cX9_addRule 32 = .ok (.iload 5, 2) := by decide +kernel
theorem dX9_addRule_34 : decode cX9_addRule 34 = .ok (.iconst 2, 1) := by decide +kernel
theorem dX9_addRule_35 : decode cX9_addRule 35 = .ok (.iadd, 1) := by decide +kernel
theorem dX9_addRule_36 : decode cX9_addRule 36 = .ok (.iload_n 3, 1) := by decide +kernel
theorem dX9_addRule_37 : decode cX9_addRule 37 = .ok (.ifCond .eq 7, 3) := by decide +kernel
theorem dX9_addRule_40 : decode cX9_addRule 40 = .ok (.iconst 1, 1) := by decide +kernel
theorem dX9_addRule_41 : decode cX9_addRule 41 = .ok (.goto 4, 3) := by decide +kernel
theorem dX9_addRule_44 : decode cX9_addRule 44 = .ok (.iconst 0, 1) := by decide +kernel
theorem dX9_addRule_45 : decode cX9_addRule 45 = .ok (.iastore, 1) := by decide +kernel
theorem dX9_addRule_46 : decode cX9_addRule 46 = .ok (.aload_n 0, 1) := by decide +kernel
theorem dX9_addRule_47 : decode cX9_addRule 47 = .ok (.getfield 15, 3) := by decide +kernel
theorem dX9_addRule_50 : decode cX9_addRule 50 = .ok (.iload 5, 2) := by decide +kernel
theorem dX9_addRule_52 : decode cX9_addRule 52 = .ok (.iconst 3, 1) := by decide +kernel
theorem dX9_addRule_53 : decode cX9_addRule 53 = .ok (.iadd, 1) := by decide +kernel
theorem dX9_addRule_54 : decode cX9_addRule 54 = .ok (.iload 4, 2) := by decide +kernel
theorem dX9_addRule_56 : decode cX9_addRule 56 = .ok (.iastore, 1) := by decide +kernel
theorem dX9_addRule_57 : decode cX9_addRule 57 = .ok (.aload_n 0, 1) := by decide +kernel
theorem dX9_addRule_58 : decode cX9_addRule 58 = .ok (.dup, 1) := by decide +kernel
theorem dX9_addRule_59 : decode cX9_addRule 59 = .ok (.getfield 34, 3) := by decide +kernel
theorem dX9_addRule_62 : decode cX9_addRule 62 = .ok (.iconst 1, 1) := by decide +kernel
theorem dX9_addRule_63 : decode cX9_addRule 63 = .ok (.iadd, 1) := by decide +kernel
theorem dX9_addRule_64 : decode cX9_addRule 64 = .ok (.putfield 34, 3) := by decide +kernel
theorem dX9_addRule_67 : decode cX9_addRule 67 = .ok (.aload_n 0, 1) := by decide +kernel
theorem dX9_addRule_68 : decode cX9_addRule 68 = .ok (.getfield 34, 3) := by decide +kernel
theorem dX9_addRule_71 : decode cX9_addRule 71 = .ok (.ireturn, 1) := by decide +kernel
theorem dX9_fitting_0 : decode cX9_fitting 0 = .ok (.aload_n 0, 1) := by decide +kernel
theorem dX9_fitting_1 : decode cX9_fitting 1 = .ok (.getfield 34, 3) := by decide +kernel
theorem dX9_fitting_4 : decode cX9_fitting 4 = .ok (.iconst 1, 1) := by decide +kernel
theorem dX9_fitting_5 : decode cX9_fitting 5 = .ok (.isub, 1) := by decide +kernel
theorem dX9_fitting_6 : decode cX9_fitting 6 = .ok (.istore_n 3, 1) := by decide +kernel
theorem dX9_fitting_7 : decode cX9_fitting 7 = .ok (.iload_n 3, 1) := by decide +kernel
theorem dX9_fitting_8 : decode cX9_fitting 8 = .ok (.ifCond .lt 68, 3) := by decide +kernel
theorem dX9_fitting_11 : decode cX9_fitting 11 = .ok (.aload_n 0, 1) := by decide +kernel
theorem dX9_fitting_12 : decode cX9_fitting 12 = .ok (.getfield 15, 3) := by decide +kernel
theorem dX9_fitting_15 : decode cX9_fitting 15 = .ok (.iload_n 3, 1) := by decide +kernel
theorem dX9_fitting_16 : decode cX9_fitting 16 = .ok (.iconst 4, 1) := by decide +kernel
theorem dX9_fitting_17 : decode cX9_fitting 17 = .ok (.imul, 1) := by decide +kernel
theorem dX9_fitting_18 : decode cX9_fitting 18 = .ok (.iconst 0, 1) := by decide +kernel
theorem dX9_fitting_19 : decode cX9_fitting 19 = .ok (.iadd, 1) := by decide +kernel
theorem dX9_fitting_20 : decode cX9_fitting 20 = .ok (.iaload, 1) := by decide +kernel
theorem dX9_fitting_21 : decode cX9_fitting 21 = .ok (.istore 4, 2) := by decide +kernel
theorem dX9_fitting_23 : decode cX9_fitting 23 = .ok (.iload 4, 2) := by decide +kernel
theorem dX9_fitting_25 : decode cX9_fitting 25 = .ok (.ifCond .lt 31, 3) := by decide +kernel
theorem dX9_fitting_28 : decode cX9_fitting 28 = .ok (.iload_n 2, 1) := by decide +kernel
theorem dX9_fitting_29 : decode cX9_fitting 29 = .ok (.iload 4, 2) := by decide +kernel
theorem dX9_fitting_31 : decode cX9_fitting 31 = .ok (.iadd, 1) := by decide +kernel
theorem dX9_fitting_32 : decode cX9_fitting 32 = .ok (.aload_n 1, 1) := by decide +kernel
theorem dX9_fitting_33 : decode cX9_fitting 33 = .ok (.arraylength, 1) := by decide +kernel
theorem dX9_fitting_34 : decode cX9_fitting 34 = .ok (.if_icmp .ge 26, 3) := by decide +kernel
theorem dX9_fitting_37 : decode cX9_fitting 37 = .ok (.aload_n 1, 1) := by decide +kernel
theorem dX9_fitting_38 : decode cX9_fitting 38 = .ok (.iload_n 2, 1) := by decide +kernel
theorem dX9_fitting_39 : decode cX9_fitting 39 = .ok (.iload 4, 2) := by decide +kernel
theorem dX9_fitting_41 : decode cX9_fitting 41 = .ok (.iadd, 1) := by decide +kernel
theorem dX9_fitting_42 : decode cX9_fitting 42 = .ok (.iaload, 1) := by decide +kernel
theorem dX9_fitting_43 : decode cX9_fitting 43 = .ok (.aload_n 0, 1) := by decide +kernel
theorem dX9_fitting_44 : decode cX9_fitting 44 = .ok (.getfield 15, 3) := by decide +kernel
theorem dX9_fitting_47 : decode cX9_fitting 47 = .ok (.iload_n 3, 1) := by decide +kernel
theorem dX9_fitting_48 : decode cX9_fitting 48 = .ok (.iconst 4, 1) := by decide +kernel
theorem dX9_fitting_49 : decode cX9_fitting 49 = .ok (.imul, 1) := by decide +kernel
theorem dX9_fitting_50 : decode cX9_fitting 50 = .ok (.iconst 1, 1) := by decide +kernel
theorem dX9_fitting_51 : decode cX9_fitting 51 = .ok (.iadd, 1) := by decide +kernel
theorem dX9_fitting_52 : decode cX9_fitting 52 = .ok (.iaload, 1) := by decide +kernel
theorem dX9_fitting_53 : decode cX9_fitting 53 = .ok (.if_icmp .ne 7, 3) := by decide +kernel
theorem dX9_fitting_56 : decode cX9_fitting 56 = .ok (.iconst 1, 1) := by decide +kernel
theorem dX9_fitting_57 : decode cX9_fitting 57 = .ok (.goto 4, 3) := by decide +kernel
theorem dX9_fitting_60 : decode cX9_fitting 60 = .ok (.iconst 0, 1) := by decide +kernel
theorem dX9_fitting_61 : decode cX9_fitting 61 = .ok (.istore 5, 2) := by decide +kernel
theorem dX9_fitting_63 : decode cX9_fitting 63 = .ok (.iload 5, 2) := by decide +kernel
theorem dX9_fitting_65 : decode cX9_fitting 65 = .ok (.ifCond .eq 5, 3) := by decide +kernel
theorem dX9_fitting_68 : decode cX9_fitting 68 = .ok (.iload_n 3, 1) := by decide +kernel
theorem dX9_fitting_69 : decode cX9_fitting 69 = .ok (.ireturn, 1) := by decide +kernel
theorem dX9_fitting_70 : decode cX9_fitting 70 = .ok (.iinc 3 (-1), 3) := by decide +kernel
theorem dX9_fitting_73 : decode cX9_fitting 73 = .ok (.goto (-66), 3) := by decide +kernel
theorem dX9_fitting_76 : decode cX9_fitting 76 = .ok (.bipush (-2), 2) := by decide +kernel
theorem dX9_fitting_78 : decode cX9_fitting 78 = .ok (.ireturn, 1) := by decide +kernel
theorem dX9_note_0 : decode cX9_note 0 = .ok (.aload_n 0, 1) := by decide +kernel
theorem dX9_note_1 : decode cX9_note 1 = .ok (.getfield 37, 3) := by decide +kernel
theorem dX9_note_4 : decode cX9_note 4 = .ok (.bipush 50, 2) := by decide +kernel
theorem dX9_note_6 : decode cX9_note 6 = .ok (.if_icmp .ge 66, 3) := by decide +kernel
theorem dX9_note_9 : decode cX9_note 9 = .ok (.aload_n 0, 1) := by decide +kernel
theorem dX9_note_10 : decode cX9_note 10 = .ok (.getfield 22, 3) := by decide +kernel
theorem dX9_note_13 : decode cX9_note 13 = .ok (.aload_n 0, 1) := by decide +kernel
theorem dX9_note_14 : decode cX9_note 14 = .ok (.getfield 37, 3) := by decide +kernel
theorem dX9_note_17 : decode cX9_note 17 = .ok (.iload_n 3, 1) := by decide +kernel
theorem dX9_note_18 : decode cX9_note 18 = .ok (.iastore, 1) := by decide +kernel
theorem dX9_note_19 : decode cX9_note 19 = .ok (.iconst 0, 1) := by decide +kernel
theorem dX9_note_20 : decode cX9_note 20 = .ok (.istore 4, 2) := by decide +kernel
theorem dX9_note_22 : decode cX9_note 22 = .ok (.iload 4, 2) := by decide +kernel
theorem dX9_note_24 : decode cX9_note 24 = .ok (.aload_n 0, 1) := by decide +kernel
theorem dX9_note_25 : decode cX9_note 25 = .ok (.getfield 31, 3) := by decide +kernel
theorem dX9_note_28 : decode cX9_note 28 = .ok (.if_icmp .ge 44, 3) := by decide +kernel
theorem dX9_note_31 : decode cX9_note 31 = .ok (.iload 4, 2) := by decide +kernel
theorem dX9_note_33 : decode cX9_note 33 = .ok (.iconst 4, 1) := by decide +kernel
theorem dX9_note_34 : decode cX9_note 34 = .ok (.if_icmp .ge 38, 3) := by decide +kernel
theorem dX9_note_37 : decode cX9_note 37 = .ok (.iload_n 2, 1) := by decide +kernel
theorem dX9_note_38 : decode cX9_note 38 = .ok (.iload 4, 2) := by decide +kernel
theorem dX9_note_40 : decode cX9_note 40 = .ok (.iadd, 1) := by decide +kernel
theorem dX9_note_41 : decode cX9_note 41 = .ok (.aload_n 1, 1) := by decide +kernel
theorem dX9_note_42 : decode cX9_note 42 = .ok (.arraylength, 1) := by decide +kernel
theorem dX9_note_43 : decode cX9_note 43 = .ok (.if_icmp .ge 29, 3) := by decide +kernel
theorem dX9_note_46 : decode cX9_note 46 = .ok (.aload_n 0, 1) := by decide +kernel
theorem dX9_note_47 : decode cX9_note 47 = .ok (.getfield 19, 3) := by decide +kernel
theorem dX9_note_50 : decode cX9_note 50 = .ok (.aload_n 0, 1) := by decide +kernel
theorem dX9_note_51 : decode cX9_note 51 = .ok (.getfield 37, 3) := by decide +kernel
theorem dX9_note_54 : decode cX9_note 54 = .ok (.iconst 4, 1) := by decide +kernel
theorem dX9_note_55 : decode cX9_note 55 = .ok (.imul, 1) := by decide +kernel
theorem dX9_note_56 : decode cX9_note 56 = .ok (.iload 4, 2) := by decide +kernel
theorem dX9_note_58 : decode cX9_note 58 = .ok (.iadd, 1) := by decide +kernel
theorem dX9_note_59 : decode cX9_note 59 = .ok (.aload_n 1, 1) := by decide +kernel
theorem dX9_note_60 : decode cX9_note 60 = .ok (.iload_n 2, 1) := by decide +kernel
theorem dX9_note_61 : decode cX9_note 61 = .ok (.iload 4, 2) := by decide +kernel
theorem dX9_note_63 : decode cX9_note 63 = .ok (.iadd, 1) := by decide +kernel
theorem dX9_note_64 : decode cX9_note 64 = .ok (.iaload, 1) := by decide +kernel
theorem dX9_note_65 : decode cX9_note 65 = .ok (.iastore, 1) := by decide +kernel
theorem dX9_note_66 : decode cX9_note 66 = .ok (.iinc 4 1, 3) := by decide +kernel
theorem dX9_note_69 : decode cX9_note 69 = .ok (.goto (-47), 3) := by decide +kernel
theorem dX9_note_72 : decode cX9_note 72 = .ok (.aload_n 0, 1) := by decide +kernel
theorem dX9_note_73 : decode cX9_note 73 = .ok (.dup, 1) := by decide +kernel
theorem dX9_note_74 : decode cX9_note 74 = .ok (.getfield 37, 3) := by decide +kernel
theorem dX9_note_77 : decode cX9_note 77 = .ok (.iconst 1, 1) := by decide +kernel
theorem dX9_note_78 : decode cX9_note 78 = .ok (.iadd, 1) := by decide +kernel
theorem dX9_note_79 : decode cX9_note 79 = .ok (.putfield 37, 3) := by decide +kernel
theorem dX9_note_82 : decode cX9_note 82 = .ok (.return_, 1) := by decide +kernel
theorem dX10_init_0 : decode cX10_init 0 = .ok (.aload_n 0, 1) := by decide +kernel
theorem dX10_init_1 : decode cX10_init 1 = .ok (.invokespecial 3, 3) := by decide +kernel
theorem dX10_init_4 : decode cX10_init 4 = .ok (.aload_n 0, 1) := by decide +kernel
theorem dX10_init_5 : decode cX10_init 5 = .ok (.bipush (-2), 2) := by decide +kernel
theorem dX10_init_7 : decode cX10_init 7 = .ok (.putfield 9, 3) := by decide +kernel
theorem dX10_init_10 : decode cX10_init 10 = .ok (.aload_n 0, 1) := by decide +kernel
theorem dX10_init_11 : decode cX10_init 11 = .ok (.iconst 3, 1) := by decide +kernel
theorem dX10_init_12 : decode cX10_init 12 = .ok (.newarray .int, 2) := by decide +kernel
theorem dX10_init_14 : decode cX10_init 14 = .ok (.putfield 15, 3) := by decide +kernel
theorem dX10_init_17 : decode cX10_init 17 = .ok (.aload_n 0, 1) := by decide +kernel
theorem dX10_init_18 : decode cX10_init 18 = .ok (.iconst 3, 1) := by decide +kernel
theorem dX10_init_19 : decode cX10_init 19 = .ok (.newarray .int, 2) := by decide +kernel
theorem dX10_init_21 : decode cX10_init 21 = .ok (.putfield 19, 3) := by decide +kernel
theorem dX10_init_24 : decode cX10_init 24 = .ok (.aload_n 0, 1) := by decide +kernel
theorem dX10_init_25 : decode cX10_init 25 = .ok (.lload_n 1, 1) := by decide +kernel
theorem dX10_init_26 : decode cX10_init 26 = .ok (.putfield 22, 3) := by decide +kernel
theorem dX10_init_29 : decode cX10_init 29 = .ok (.aload_n 0, 1) := by decide +kernel
theorem dX10_init_30 : decode cX10_init 30 = .ok (.iload_n 3, 1) := by decide +kernel
theorem dX10_init_31 : decode cX10_init 31 = .ok (.putfield 26, 3) := by decide +kernel
theorem dX10_init_34 : decode cX10_init 34 = .ok (.aload_n 0, 1) := by decide +kernel
theorem dX10_init_35 : decode cX10_init 35 = .ok (.iload_n 3, 1) := by decide +kernel
theorem dX10_init_36 : decode cX10_init 36 = .ok (.putfield 29, 3) := by decide +kernel
theorem dX10_init_39 : decode cX10_init 39 = .ok (.aload_n 0, 1) := by decide +kernel
theorem dX10_init_40 : decode cX10_init 40 = .ok (.iload 4, 2) := by decide +kernel
theorem dX10_init_42 : decode cX10_init 42 = .ok (.putfield 32, 3) := by decide +kernel
theorem dX10_init_45 : decode cX10_init 45 = .ok (.aload_n 0, 1) := by decide +kernel
theorem dX10_init_46 : decode cX10_init 46 = .ok (.iload 4, 2) := by decide +kernel
theorem dX10_init_48 : decode cX10_init 48 = .ok (.putfield 35, 3) := by decide +kernel
theorem dX10_init_51 : decode cX10_init 51 = .ok (.return_, 1) := by decide +kernel
theorem dX11_init_0 : decode cX11_init 0 = .ok (.aload_n 0, 1) := by decide +kernel
theorem dX11_init_1 : decode cX11_init 1 = .ok (.invokespecial 3, 3) := by decide +kernel
theorem dX11_init_4 : decode cX11_init 4 = .ok (.aload_n 0, 1) := by decide +kernel
theorem dX11_init_5 : decode cX11_init 5 = .ok (.new 9, 3) := by decide +kernel
theorem dX11_init_8 : decode cX11_init 8 = .ok (.dup, 1) := by decide +kernel
theorem dX11_init_9 : decode cX11_init 9 = .ok (.invokespecial 11, 3) := by decide +kernel
theorem dX11_init_12 : decode cX11_init 12 = .ok (.putfield 12, 3) := by decide +kernel
theorem dX11_init_15 : decode cX11_init 15 = .ok (.aload_n 0, 1) := by decide +kernel
theorem dX11_init_16 : decode cX11_init 16 = .ok (.new 16, 3) := by decide +kernel
theorem dX11_init_19 : decode cX11_init 19 = .ok (.dup, 1) := by decide +kernel
theorem dX11_init_20 : decode cX11_init 20 = .ok (.invokespecial 18, 3) := by decide +kernel
theorem dX11_init_23 : decode cX11_init 23 = .ok (.putfield 19, 3) := by decide +kernel
theorem dX11_init_26 : decode cX11_init 26 = .ok (.aload_n 0, 1) := by decide +kernel
theorem dX11_init_27 : decode cX11_init 27 = .ok (.new 23, 3) := by decide +kernel
theorem dX11_init_30 : decode cX11_init 30 = .ok (.dup, 1) := by decide +kernel
theorem dX11_init_31 : decode cX11_init 31 = .ok (.invokespecial 25, 3) := by decide +kernel
theorem dX11_init_34 : decode cX11_init 34 = .ok (.putfield 26, 3) := by decide +kernel
theorem dX11_init_37 : decode cX11_init 37 = .ok (.aload_n 0, 1) := by decide +kernel
theorem dX11_init_38 : decode cX11_init 38 = .ok (.new 16, 3) := by decide +kernel
theorem dX11_init_41 : decode cX11_init 41 = .ok (.dup, 1) := by decide +kernel
theorem dX11_init_42 : decode cX11_init 42 = .ok (.invokespecial 18, 3) := by decide +kernel
theorem dX11_init_45 : decode cX11_init 45 = .ok (.putfield 30, 3) := by decide +kernel
theorem dX11_init_48 : decode cX11_init 48 = .ok (.aload_n 0, 1) := by decide +kernel
theorem dX11_init_49 : decode cX11_init 49 = .ok (.new 16, 3) := by decide +kernel
theorem dX11_init_52 : decode cX11_init 52 = .ok (.dup, 1) := by decide +kernel
theorem dX11_init_53 : decode cX11_init 53 = .ok (.invokespecial 18, 3) := by decide +kernel
theorem dX11_init_56 : decode cX11_init 56 = .ok (.putfield 33, 3) := by decide +kernel
theorem dX11_init_59 : decode cX11_init 59 = .ok (.aload_n 0, 1) := by decide +kernel
theorem dX11_init_60 : decode cX11_init 60 = .ok (.new 36, 3) := by decide +kernel
theorem dX11_init_63 : decode cX11_init 63 = .ok (.dup, 1) := by decide +kernel
theorem dX11_init_64 : decode cX11_init 64 = .ok (.invokespecial 38, 3) := by decide +kernel
theorem dX11_init_67 : decode cX11_init 67 = .ok (.putfield 39, 3) := by decide +kernel
theorem dX11_init_70 : decode cX11_init 70 = .ok (.aload_n 0, 1) := by decide +kernel
theorem dX11_init_71 : decode cX11_init 71 = .ok (.new 43, 3) := by decide +kernel
theorem dX11_init_74 : decode cX11_init 74 = .ok (.dup, 1) := by decide +kernel
theorem dX11_init_75 : decode cX11_init 75 = .ok (.invokespecial 45, 3) := by decide +kernel
theorem dX11_init_78 : decode cX11_init 78 = .ok (.putfield 46, 3) := by decide +kernel
theorem dX11_init_81 : decode cX11_init 81 = .ok (.aload_n 0, 1) := by decide +kernel
theorem dX11_init_82 : decode cX11_init 82 = .ok (.bipush 6, 2) := by decide +kernel
theorem dX11_init_84 : decode cX11_init 84 = .ok (.newarray .int, 2) := by decide +kernel
theorem dX11_init_86 : decode cX11_init 86 = .ok (.putfield 50, 3) := by decide +kernel
theorem dX11_init_89 : decode cX11_init 89 = .ok (.aload_n 0, 1) := by decide +kernel
theorem dX11_init_90 : decode cX11_init 90 = .ok (.bipush 6, 2) := by decide +kernel
theorem dX11_init_92 : decode cX11_init 92 = .ok (.newarray .int, 2) := by decide +kernel
theorem dX11_init_94 : decode cX11_init 94 = .ok (.putfield 54, 3) := by decide +kernel
theorem dX11_init_97 : decode cX11_init 97 = .ok (.aload_n 0, 1) := by decide +kernel
theorem dX11_init_98 : decode cX11_init 98 = .ok (.bipush (-2), 2) := by decide +kernel
theorem dX11_init_100 : decode cX11_init 100 = .ok (.putfield 57, 3) := by decide +kernel
theorem dX11_init_103 : decode cX11_init 103 = .ok (.aload_n 0, 1) := by decide +kernel
theorem dX11_init_104 : decode cX11_init 104 = .ok (.bipush 16, 2) := by decide +kernel
theorem dX11_init_106 : decode cX11_init 106 = .ok (.newarray .int, 2) := by decide +kernel
theorem dX11_init_108 : decode cX11_init 108 = .ok (.putfield 61, 3) := by decide +kernel
theorem dX11_init_111 : decode cX11_init 111 = .ok (.aload_n 0, 1) := by decide +kernel
theorem dX11_init_112 : decode cX11_init 112 = .ok (.bipush 16, 2) := by decide +kernel
theorem dX11_init_114 : decode cX11_init 114 = .ok (.newarray .int, 2) := by decide +kernel
theorem dX11_init_116 : decode cX11_init 116 = .ok (.putfield 64, 3) := by decide +kernel
theorem dX11_init_119 : decode cX11_init 119 = .ok (.aload_n 0, 1) := by decide +kernel
theorem dX11_init_120 : decode cX11_init 120 = .ok (.iconst 4, 1) := by decide +kernel
theorem dX11_init_121 : decode cX11_init 121 = .ok (.bipush 16, 2) := by decide +kernel
theorem dX11_init_123 : decode cX11_init 123 = .ok (.multianewarray 67 2, 4) := by decide +kernel
theorem dX11_init_127 : decode cX11_init 127 = .ok (.putfield 69, 3) := by decide +kernel
theorem dX11_init_130 : decode cX11_init 130 = .ok (.aload_n 0, 1) := by decide +kernel
theorem dX11_init_131 : decode cX11_init 131 = .ok (.iconst 4, 1) := by decide +kernel
theorem dX11_init_132 : decode cX11_init 132 = .ok (.bipush 16, 2) := by decide +kernel
theorem dX11_init_134 : decode cX11_init 134 = .ok (.multianewarray 67 2, 4) := by decide +kernel
theorem dX11_init_138 : decode cX11_init 138 = .ok (.putfield 72, 3) := by decide +kernel
theorem dX11_init_141 : decode cX11_init 141 = .ok (.return_, 1) := by decide +kernel
theorem dX11_feed_0 : decode cX11_feed 0 = .ok (.aload_n 0, 1) := by decide +kernel
theorem dX11_feed_1 : decode cX11_feed 1 = .ok (.getfield 12, 3) := by decide +kernel
theorem dX11_feed_4 : decode cX11_feed 4 = .ok (.getfield 75, 3) := by decide +kernel
theorem dX11_feed_7 : decode cX11_feed 7 = .ok (.astore 6, 2) := by decide +kernel
theorem dX11_feed_9 : decode cX11_feed 9 = .ok (.aload 6, 2) := by decide +kernel
theorem dX11_feed_11 : decode cX11_feed 11 = .ok (.getfield 79, 3) := by decide +kernel
theorem dX11_feed_14 : decode cX11_feed 14 = .ok (.bipush 20, 2) := by decide +kernel
theorem dX11_feed_16 : decode cX11_feed 16 = .ok (.iadd, 1) := by decide +kernel
theorem dX11_feed_17 : decode cX11_feed 17 = .ok (.sipush 3000, 3) := by decide +kernel
theorem dX11_feed_20 : decode cX11_feed 20 = .ok (.if_icmp .le 6, 3) := by decide +kernel
theorem dX11_feed_23 : decode cX11_feed 23 = .ok (.bipush (-3), 2) := by decide +kernel
theorem dX11_feed_25 : decode cX11_feed 25 = .ok (.ireturn, 1) := by decide +kernel
theorem dX11_feed_26 : decode cX11_feed 26 = .ok (.aload 6, 2) := by decide +kernel
theorem dX11_feed_28 : decode cX11_feed 28 = .ok (.iload_n 1, 1) := by decide +kernel
theorem dX11_feed_29 : decode cX11_feed 29 = .ok (.invokevirtual 84, 3) := by decide +kernel
theorem dX11_feed_32 : decode cX11_feed 32 = .ok (.aload 6, 2) := by decide +kernel
theorem dX11_feed_34 : decode cX11_feed 34 = .ok (.iload_n 2, 1) := by decide +kernel
theorem dX11_feed_35 : decode cX11_feed 35 = .ok (.invokevirtual 84, 3) := by decide +kernel
theorem dX11_feed_38 : decode cX11_feed 38 = .ok (.aload 6, 2) := by decide +kernel
theorem dX11_feed_40 : decode cX11_feed 40 = .ok (.iload_n 3, 1) := by decide +kernel
theorem dX11_feed_41 : decode cX11_feed 41 = .ok (.invokevirtual 84, 3) := by decide +kernel
theorem dX11_feed_44 : decode cX11_feed 44 = .ok (.aload 6, 2) := by decide +kernel
theorem dX11_feed_46 : decode cX11_feed 46 = .ok (.iload 4, 2) := by decide +kernel
theorem dX11_feed_48 : decode cX11_feed 48 = .ok (.invokevirtual 84, 3) := by decide +kernel
theorem dX11_feed_51 : decode cX11_feed 51 = .ok (.aload 6, 2) := by decide +kernel
theorem dX11_feed_53 : decode cX11_feed 53 = .ok (.iload 5, 2) := by decide +kernel
theorem dX11_feed_55 : decode cX11_feed 55 = .ok (.invokevirtual 84, 3) := by decide +kernel
theorem dX11_feed_58 : decode cX11_feed 58 = .ok (.aload 6, 2) := by decide +kernel
theorem dX11_feed_60 : decode cX11_feed 60 = .ok (.getfield 79, 3) := by decide +kernel
theorem dX11_feed_63 : decode cX11_feed 63 = .ok (.ireturn, 1) := by decide +kernel
theorem dX11_cut_0 : decode cX11_cut 0 = .ok (.aload_n 0, 1) := by decide +kernel
theorem dX11_cut_1 : decode cX11_cut 1 = .ok (.getfield 12, 3) := by decide +kernel
theorem dX11_cut_4 : decode cX11_cut 4 = .ok (.getfield 75, 3) := by decide +kernel
theorem dX11_cut_7 : decode cX11_cut 7 = .ok (.astore_n 2, 1) := by decide +kernel
theorem dX11_cut_8 : decode cX11_cut 8 = .ok (.iload_n 1, 1) := by decide +kernel
theorem dX11_cut_9 : decode cX11_cut 9 = .ok (.ifCond .lt 11, 3) := by decide +kernel
theorem dX11_cut_12 : decode cX11_cut 12 = .ok (.iload_n 1, 1) := by decide +kernel
theorem dX11_cut_13 : decode cX11_cut 13 = .ok (.aload_n 2, 1) := by decide +kernel
theorem dX11_cut_14 : decode cX11_cut 14 = .ok (.getfield 79, 3) := by decide +kernel
theorem dX11_cut_17 : decode cX11_cut 17 = .ok (.if_icmp .le 5, 3) := by decide +kernel
theorem dX11_cut_20 : decode cX11_cut 20 = .ok (.iconst (-1), 1) := by decide +kernel
theorem dX11_cut_21 : decode cX11_cut 21 = .ok (.ireturn, 1) := by decide +kernel
theorem dX11_cut_22 : decode cX11_cut 22 = .ok (.aload_n 2, 1) := by decide +kernel
theorem dX11_cut_23 : decode cX11_cut 23 = .ok (.dup, 1) := by decide +kernel
theorem dX11_cut_24 : decode cX11_cut 24 = .ok (.getfield 79, 3) := by decide +kernel
theorem dX11_cut_27 : decode cX11_cut 27 = .ok (.iload_n 1, 1) := by decide +kernel
theorem dX11_cut_28 : decode cX11_cut 28 = .ok (.isub, 1) := by decide +kernel
theorem dX11_cut_29 : decode cX11_cut 29 = .ok (.putfield 79, 3) := by decide +kernel
theorem dX11_cut_32 : decode cX11_cut 32 = .ok (.aload_n 2, 1) := by decide +kernel
theorem dX11_cut_33 : decode cX11_cut 33 = .ok (.getfield 79, 3) := by decide +kernel
theorem dX11_cut_36 : decode cX11_cut 36 = .ok (.ireturn, 1) := by decide +kernel
theorem dX11_parcel_0 : decode cX11_parcel 0 = .ok (.aload_n 0, 1) := by decide +kernel
theorem dX11_parcel_1 : decode cX11_parcel 1 = .ok (.getfield 19, 3) := by decide +kernel
theorem dX11_parcel_4 : decode cX11_parcel 4 = .ok (.invokevirtual 88, 3) := by decide +kernel
theorem dX11_parcel_7 : decode cX11_parcel 7 = .ok (.bipush 8, 2) := by decide +kernel
theorem dX11_parcel_9 : decode cX11_parcel 9 = .ok (.if_icmp .lt 6, 3) := by decide +kernel
theorem dX11_parcel_12 : decode cX11_parcel 12 = .ok (.bipush (-3), 2) := by decide +kernel
theorem dX11_parcel_14 : decode cX11_parcel 14 = .ok (.ireturn, 1) := by decide +kernel
theorem dX11_parcel_15 : decode cX11_parcel 15 = .ok (.aload_n 0, 1) := by decide +kernel
theorem dX11_parcel_16 : decode cX11_parcel 16 = .ok (.getfield 12, 3) := by decide +kernel
theorem dX11_parcel_19 : decode cX11_parcel 19 = .ok (.invokevirtual 92, 3) := by decide +kernel
theorem dX11_parcel_22 : decode cX11_parcel 22 = .ok (.aload_n 0, 1) := by decide +kernel
theorem dX11_parcel_23 : decode cX11_parcel 23 = .ok (.getfield 12, 3) := by decide +kernel
theorem dX11_parcel_26 : decode cX11_parcel 26 = .ok (.getfield 75, 3) := by decide +kernel
theorem dX11_parcel_29 : decode cX11_parcel 29 = .ok (.iconst 0, 1) := by decide +kernel
theorem dX11_parcel_30 : decode cX11_parcel 30 = .ok (.putfield 79, 3) := by decide +kernel
theorem dX11_parcel_33 : decode cX11_parcel 33 = .ok (.aload_n 0, 1) := by decide +kernel
theorem dX11_parcel_34 : decode cX11_parcel 34 = .ok (.getfield 12, 3) := by decide +kernel
theorem dX11_parcel_37 : decode cX11_parcel 37 = .ok (.getfield 95, 3) := by decide +kernel
theorem dX11_parcel_40 : decode cX11_parcel 40 = .ok (.ifCond .eq 14, 3) := by decide +kernel
theorem dX11_parcel_43 : decode cX11_parcel 43 = .ok (.bipush (-10), 2) := by decide +kernel
theorem dX11_parcel_45 : decode cX11_parcel 45 = .ok (.aload_n 0, 1) := by decide +kernel
theorem dX11_parcel_46 : decode cX11_parcel 46 = .ok (.getfield 12, 3) := by decide +kernel
theorem dX11_parcel_49 : decode cX11_parcel 49 = .ok (.getfield 98, 3) := by decide +kernel
theorem dX11_parcel_52 : decode cX11_parcel 52 = .ok (.isub, 1) := by decide +kernel
theorem dX11_parcel_53 : decode cX11_parcel 53 = .ok (.ireturn, 1) := by decide +kernel
theorem dX11_parcel_54 : decode cX11_parcel 54 = .ok (.aload_n 0, 1) := by decide +kernel
theorem dX11_parcel_55 : decode cX11_parcel 55 = .ok (.getfield 19, 3) := by decide +kernel
theorem dX11_parcel_58 : decode cX11_parcel 58 = .ok (.invokevirtual 88, 3) := by decide +kernel
theorem dX11_parcel_61 : decode cX11_parcel 61 = .ok (.istore_n 1, 1) := by decide +kernel
theorem dX11_parcel_62 : decode cX11_parcel 62 = .ok (.aload_n 0, 1) := by decide +kernel
theorem dX11_parcel_63 : decode cX11_parcel 63 = .ok (.getfield 19, 3) := by decide +kernel
theorem dX11_parcel_66 : decode cX11_parcel 66 = .ok (.new 101, 3) := by decide +kernel
theorem dX11_parcel_69 : decode cX11_parcel 69 = .ok (.dup, 1) := by decide +kernel
theorem dX11_parcel_70 : decode cX11_parcel 70 = .ok (.aload_n 0, 1) := by decide +kernel
theorem dX11_parcel_71 : decode cX11_parcel 71 = .ok (.getfield 12, 3) := by decide +kernel
theorem dX11_parcel_74 : decode cX11_parcel 74 = .ok (.iload_n 1, 1) := by decide +kernel
theorem dX11_parcel_75 : decode cX11_parcel 75 = .ok (.invokespecial 103, 3) := by decide +kernel
theorem dX11_parcel_78 : decode cX11_parcel 78 = .ok (.invokevirtual 106, 3) := by decide +kernel
theorem dX11_parcel_81 : decode cX11_parcel 81 = .ok (.pop, 1) := by decide +kernel
theorem dX11_parcel_82 : decode cX11_parcel 82 = .ok (.iload_n 1, 1) := by decide +kernel
theorem dX11_parcel_83 : decode cX11_parcel 83 = .ok (.ireturn, 1) := by decide +kernel
theorem dX11_fault_0 : decode cX11_fault 0 = .ok (.aload_n 0, 1) := by decide +kernel
theorem dX11_fault_1 : decode cX11_fault 1 = .ok (.getfield 12, 3) := by decide +kernel
theorem dX11_fault_4 : decode cX11_fault 4 = .ok (.getfield 95, 3) := by decide +kernel
theorem dX11_fault_7 : decode cX11_fault 7 = .ok (.ireturn, 1) := by decide +kernel
theorem dX11_count_0 : decode cX11_count 0 = .ok (.iload_n 2, 1) := by decide +kernel
theorem dX11_count_1 : decode cX11_count 1 = .ok (.ifCond .ne 11, 3) := by decide +kernel
theorem dX11_count_4 : decode cX11_count 4 = .ok (.aload_n 0, 1) := by decide +kernel
theorem dX11_count_5 : decode cX11_count 5 = .ok (.getfield 19, 3) := by decide +kernel
theorem dX11_count_8 : decode cX11_count 8 = .ok (.invokevirtual 88, 3) := by decide +kernel
theorem dX11_count_11 : decode cX11_count 11 = .ok (.ireturn, 1) := by decide +kernel
theorem dX11_count_12 : decode cX11_count 12 = .ok (.aload_n 0, 1) := by decide +kernel
theorem dX11_count_13 : decode cX11_count 13 = .ok (.iload_n 1, 1) := by decide +kernel
theorem dX11_count_14 : decode cX11_count 14 = .ok (.invokevirtual 109, 3) := by decide +kernel
theorem dX11_count_17 : decode cX11_count 17 = .ok (.astore_n 3, 1) := by decide +kernel
theorem dX11_count_18 : decode cX11_count 18 = .ok (.aload_n 3, 1) := by decide +kernel
theorem dX11_count_19 : decode cX11_count 19 = .ok (.ifnonnull 5, 3) := by decide +kernel
theorem dX11_count_22 : decode cX11_count 22 = .ok (.iconst (-1), 1) := by decide +kernel
theorem dX11_count_23 : decode cX11_count 23 = .ok (.ireturn, 1) := by decide +kernel
theorem dX11_count_24 : decode cX11_count 24 = .ok (.iload_n 2, 1) := by decide +kernel
theorem dX11_count_25 : decode cX11_count 25 = .ok (.tableswitch 82 1 6 #[39, 47, 55, 60, 68, 76], 39) := by decide +kernel
theorem dX11_count_64 : decode cX11_count 64 = .ok (.aload_n 3, 1) := by decide +kernel
theorem dX11_count_65 : decode cX11_count 65 = .ok (.getfield 113, 3) := by decide +kernel
theorem dX11_count_68 : decode cX11_count 68 = .ok (.invokevirtual 88, 3) := by decide +kernel
theorem dX11_count_71 : decode cX11_count 71 = .ok (.ireturn, 1) := by decide +kernel
theorem dX11_count_72 : decode cX11_count 72 = .ok (.aload_n 3, 1) := by decide +kernel
theorem dX11_count_73 : decode cX11_count 73 = .ok (.getfield 116, 3) := by decide +kernel
theorem dX11_count_76 : decode cX11_count 76 = .ok (.invokevirtual 88, 3) := by decide +kernel
theorem dX11_count_79 : decode cX11_count 79 = .ok (.ireturn, 1) := by decide +kernel
theorem dX11_count_80 : decode cX11_count 80 = .ok (.aload_n 3, 1) := by decide +kernel
theorem dX11_count_81 : decode cX11_count 81 = .ok (.getfield 119, 3) := by decide +kernel
theorem dX11_count_84 : decode cX11_count 84 = .ok (.ireturn, 1) := by decide +kernel
theorem dX11_count_85 : decode cX11_count 85 = .ok (.aload_n 3, 1) := by decide +kernel
theorem dX11_count_86 : decode cX11_count 86 = .ok (.getfield 121, 3) := by decide +kernel
theorem dX11_count_89 : decode cX11_count 89 = .ok (.invokevirtual 88, 3) := by decide +kernel
theorem dX11_count_92 : decode cX11_count 92 = .ok (.ireturn, 1) := by decide +kernel
theorem dX11_count_93 : decode cX11_count 93 = .ok (.aload_n 3, 1) := by decide +kernel
theorem dX11_count_94 : decode cX11_count 94 = .ok (.getfield 124, 3) := by decide +kernel
theorem dX11_count_97 : decode cX11_count 97 = .ok (.invokevirtual 88, 3) := by decide +kernel
theorem dX11_count_100 : decode cX11_count 100 = .ok (.ireturn, 1) := by decide +kernel
theorem dX11_count_101 : decode cX11_count 101 = .ok (.aload_n 3, 1) := by decide +kernel
theorem dX11_count_102 : decode cX11_count 102 = .ok (.getfield 127, 3) := by decide +kernel
theorem dX11_count_105 : decode cX11_count 105 = .ok (.arraylength, 1) := by decide +kernel
theorem dX11_count_106 : decode cX11_count 106 = .ok (.ireturn, 1) := by decide +kernel
theorem dX11_count_107 : decode cX11_count 107 = .ok (.iconst (-1), 1) := by decide +kernel
theorem dX11_count_108 : decode cX11_count 108 = .ok (.ireturn, 1) := by decide +kernel
theorem dX11_member_0 : decode cX11_member 0 = .ok (.aload_n 0, 1) := by decide +kernel
theorem dX11_member_1 : decode cX11_member 1 = .ok (.iload_n 1, 1) := by decide +kernel
theorem dX11_member_2 : decode cX11_member 2 = .ok (.invokevirtual 109, 3) := by decide +kernel
theorem dX11_member_5 : decode cX11_member 5 = .ok (.astore 4, 2) := by decide +kernel
theorem dX11_member_7 : decode cX11_member 7 = .ok (.aload 4, 2) := by decide +kernel
theorem dX11_member_9 : decode cX11_member 9 = .ok (.ifnonnull 7, 3) := by decide +kernel
theorem dX11_member_12 : decode cX11_member 12 = .ok (.aconst_null, 1) := by decide +kernel
theorem dX11_member_13 : decode cX11_member 13 = .ok (.goto 12, 3) := by decide +kernel
theorem dX11_member_16 : decode cX11_member 16 = .ok (.aload 4, 2) := by decide +kernel
theorem dX11_member_18 : decode cX11_member 18 = .ok (.getfield 116, 3) := by decide +kernel
theorem dX11_member_21 : decode cX11_member 21 = .ok (.iload_n 2, 1) := by decide +kernel
theorem dX11_member_22 : decode cX11_member 22 = .ok (.invokestatic 130, 3) := by decide +kernel
theorem dX11_member_25 : decode cX11_member 25 = .ok (.astore 5, 2) := by decide +kernel
theorem dX11_member_27 : decode cX11_member 27 = .ok (.aload 5, 2) := by decide +kernel
theorem dX11_member_29 : decode cX11_member 29 = .ok (.ifnonnull 5, 3) := by decide +kernel
theorem dX11_member_32 : decode cX11_member 32 = .ok (.iconst (-1), 1) := by decide +kernel
theorem dX11_member_33 : decode cX11_member 33 = .ok (.ireturn, 1) := by decide +kernel
theorem dX11_member_34 : decode cX11_member 34 = .ok (.iload_n 3, 1) := by decide +kernel
theorem dX11_member_35 : decode cX11_member 35 = .ok (.tableswitch 85 0 4 #[33, 39, 45, 59, 65], 33) := by decide +kernel
theorem dX11_member_68 : decode cX11_member 68 = .ok (.aload 5, 2) := by decide +kernel
theorem dX11_member_70 : decode cX11_member 70 = .ok (.getfield 134, 3) := by decide +kernel
theorem dX11_member_73 : decode cX11_member 73 = .ok (.ireturn, 1) := by decide +kernel
theorem dX11_member_74 : decode cX11_member 74 = .ok (.aload 5, 2) := by decide +kernel
theorem dX11_member_76 : decode cX11_member 76 = .ok (.getfield 139, 3) := by decide +kernel
theorem dX11_member_79 : decode cX11_member 79 = .ok (.ireturn, 1) := by decide +kernel
theorem dX11_member_80 : decode cX11_member 80 = .ok (.aload 5, 2) := by decide +kernel
theorem dX11_member_82 : decode cX11_member 82 = .ok (.getfield 142, 3) := by decide +kernel
theorem dX11_member_85 : decode cX11_member 85 = .ok (.ifCond .eq 7, 3) := by decide +kernel
theorem dX11_member_88 : decode cX11_member 88 = .ok (.iconst 1, 1) := by decide +kernel
theorem dX11_member_89 : decode cX11_member 89 = .ok (.goto 4, 3) := by decide +kernel
theorem dX11_member_92 : decode cX11_member 92 = .ok (.iconst 0, 1) := by decide +kernel
theorem dX11_member_93 : decode cX11_member 93 = .ok (.ireturn, 1) := by decide +kernel
theorem dX11_member_94 : decode cX11_member 94 = .ok (.aload 5, 2) := by decide +kernel
theorem dX11_member_96 : decode cX11_member 96 = .ok (.getfield 146, 3) := by decide +kernel
theorem dX11_member_99 : decode cX11_member 99 = .ok (.ireturn, 1) := by decide +kernel
theorem dX11_member_100 : decode cX11_member 100 = .ok (.aload 5, 2) := by decide +kernel
theorem dX11_member_102 : decode cX11_member 102 = .ok (.getfield 139, 3) := by decide +kernel
theorem dX11_member_105 : decode cX11_member 105 = .ok (.iconst 4, 1) := by decide +kernel
theorem dX11_member_106 : decode cX11_member 106 = .ok (.if_icmp .ne 11, 3) := by decide +kernel
theorem dX11_member_109 : decode cX11_member 109 = .ok (.aload 5, 2) := by decide +kernel
theorem dX11_member_111 : decode cX11_member 111 = .ok (.getfield 149, 3) := by decide +kernel
theorem dX11_member_114 : decode cX11_member 114 = .ok (.goto 5, 3) := by decide +kernel
theorem dX11_member_117 : decode cX11_member 117 = .ok (.bipush (-2), 2) := by decide +kernel
theorem dX11_member_119 : decode cX11_member 119 = .ok (.ireturn, 1) := by decide +kernel
theorem dX11_member_120 : decode cX11_member 120 = .ok (.iconst (-1), 1) := by decide +kernel
theorem dX11_member_121 : decode cX11_member 121 = .ok (.ireturn, 1) := by decide +kernel
theorem dX11_about_0 : decode cX11_about 0 = .ok (.aload_n 0, 1) := by decide +kernel
theorem dX11_about_1 : decode cX11_about 1 = .ok (.iload_n 1, 1) := by decide +kernel
theorem dX11_about_2 : decode cX11_about 2 = .ok (.invokevirtual 109, 3) := by decide +kernel
theorem dX11_about_5 : decode cX11_about 5 = .ok (.iload_n 2, 1) := by decide +kernel
theorem dX11_about_6 : decode cX11_about 6 = .ok (.invokestatic 152, 3) := by decide +kernel
theorem dX11_about_9 : decode cX11_about 9 = .ok (.astore 4, 2) := by decide +kernel
theorem dX11_about_11 : decode cX11_about 11 = .ok (.aload 4, 2) := by decide +kernel
theorem dX11_about_13 : decode cX11_about 13 = .ok (.ifnonnull 5, 3) := by decide +kernel
theorem dX11_about_16 : decode cX11_about 16 = .ok (.iconst (-1), 1) := by decide +kernel
theorem dX11_about_17 : decode cX11_about 17 = .ok (.ireturn, 1) := by decide +kernel
theorem dX11_about_18 : decode cX11_about 18 = .ok (.iload_n 3, 1) := by decide +kernel
theorem dX11_about_19 : decode cX11_about 19 = .ok (.tableswitch 71 0 4 #[33, 39, 45, 51, 65], 33) := by decide +kernel
theorem dX11_about_52 : decode cX11_about 52 = .ok (.aload 4, 2) := by decide +kernel
theorem dX11_about_54 : decode cX11_about 54 = .ok (.getfield 134, 3) := by decide +kernel
theorem dX11_about_57 : decode cX11_about 57 = .ok (.ireturn, 1) := by decide +kernel
theorem dX11_about_58 : decode cX11_about 58 = .ok (.aload 4, 2) := by decide +kernel
theorem dX11_about_60 : decode cX11_about 60 = .ok (.getfield 146, 3) := by decide +kernel
theorem dX11_about_63 : decode cX11_about 63 = .ok (.ireturn, 1) := by decide +kernel
theorem dX11_about_64 : decode cX11_about 64 = .ok (.aload 4, 2) := by decide +kernel
theorem dX11_about_66 : decode cX11_about 66 = .ok (.getfield 156, 3) := by decide +kernel
theorem dX11_about_69 : decode cX11_about 69 = .ok (.ireturn, 1) := by decide +kernel
theorem dX11_about_70 : decode cX11_about 70 = .ok (.aload 4, 2) := by decide +kernel
theorem dX11_about_72 : decode cX11_about 72 = .ok (.getfield 159, 3) := by decide +kernel
theorem dX11_about_75 : decode cX11_about 75 = .ok (.ifCond .eq 7, 3) := by decide +kernel
theorem dX11_about_78 : decode cX11_about 78 = .ok (.iconst 1, 1) := by decide +kernel
theorem dX11_about_79 : decode cX11_about 79 = .ok (.goto 4, 3) := by decide +kernel
theorem dX11_about_82 : decode cX11_about 82 = .ok (.iconst 0, 1) := by decide +kernel
theorem dX11_about_83 : decode cX11_about 83 = .ok (.ireturn, 1) := by decide +kernel
theorem dX11_about_84 : decode cX11_about 84 = .ok (.aload 4, 2) := by decide +kernel
theorem dX11_about_86 : decode cX11_about 86 = .ok (.getfield 149, 3) := by decide +kernel
theorem dX11_about_89 : decode cX11_about 89 = .ok (.ireturn, 1) := by decide +kernel
theorem dX11_about_90 : decode cX11_about 90 = .ok (.iconst (-1), 1) := by decide +kernel
theorem dX11_about_91 : decode cX11_about 91 = .ok (.ireturn, 1) := by decide +kernel
theorem dX11_name_0 : decode cX11_name 0 = .ok (.aload_n 0, 1) := by decide +kernel
theorem dX11_name_1 : decode cX11_name 1 = .ok (.iload_n 1, 1) := by decide +kernel
theorem dX11_name_2 : decode cX11_name 2 = .ok (.invokevirtual 109, 3) := by decide +kernel
theorem dX11_name_5 : decode cX11_name 5 = .ok (.astore 5, 2) := by decide +kernel
theorem dX11_name_7 : decode cX11_name 7 = .ok (.aload 5, 2) := by decide +kernel
theorem dX11_name_9 : decode cX11_name 9 = .ok (.ifnull 12, 3) := by decide +kernel
theorem dX11_name_12 : decode cX11_name 12 = .ok (.iload_n 2, 1) := by decide +kernel
theorem dX11_name_13 : decode cX11_name 13 = .ok (.ifCond .lt 8, 3) := by decide +kernel
theorem dX11_name_16 : decode cX11_name 16 = .ok (.iload_n 2, 1) := by decide +kernel
theorem dX11_name_17 : decode cX11_name 17 = .ok (.iconst 3, 1) := by decide +kernel
theorem dX11_name_18 : decode cX11_name 18 = .ok (.if_icmp .le 5, 3) := by decide +kernel
theorem dX11_name_21 : decode cX11_name 21 = .ok (.iconst (-1), 1) := by decide +kernel
theorem dX11_name_22 : decode cX11_name 22 = .ok (.ireturn, 1) := by decide +kernel
theorem dX11_name_23 : decode cX11_name 23 = .ok (.iload_n 2, 1) := by decide +kernel
theorem dX11_name_24 : decode cX11_name 24 = .ok (.ifCond .ne 44, 3) := by decide +kernel
theorem dX11_name_27 : decode cX11_name 27 = .ok (.iload_n 3, 1) := by decide +kernel
theorem dX11_name_28 : decode cX11_name 28 = .ok (.ifCond .lt 15, 3) := by decide +kernel
theorem dX11_name_31 : decode cX11_name 31 = .ok (.iload_n 3, 1) := by decide +kernel
theorem dX11_name_32 : decode cX11_name 32 = .ok (.aload 5, 2) := by decide +kernel
theorem dX11_name_34 : decode cX11_name 34 = .ok (.getfield 113, 3) := by decide +kernel
theorem dX11_name_37 : decode cX11_name 37 = .ok (.invokevirtual 88, 3) := by decide +kernel
theorem dX11_name_40 : decode cX11_name 40 = .ok (.if_icmp .lt 7, 3) := by decide +kernel
theorem dX11_name_43 : decode cX11_name 43 = .ok (.iconst (-1), 1) := by decide +kernel
theorem dX11_name_44 : decode cX11_name 44 = .ok (.goto 23, 3) := by decide +kernel
theorem dX11_name_47 : decode cX11_name 47 = .ok (.aload 5, 2) := by decide +kernel
theorem dX11_name_49 : decode cX11_name 49 = .ok (.getfield 113, 3) := by decide +kernel
theorem dX11_name_52 : decode cX11_name 52 = .ok (.iload_n 3, 1) := by decide +kernel
theorem dX11_name_53 : decode cX11_name 53 = .ok (.invokevirtual 162, 3) := by decide +kernel
theorem dX11_name_56 : decode cX11_name 56 = .ok (.checkcast 166, 3) := by decide +kernel
theorem dX11_name_59 : decode cX11_name 59 = .ok (.getfield 168, 3) := by decide +kernel
theorem dX11_name_62 : decode cX11_name 62 = .ok (.iload 4, 2) := by decide +kernel
theorem dX11_name_64 : decode cX11_name 64 = .ok (.invokestatic 172, 3) := by decide +kernel
theorem dX11_name_67 : decode cX11_name 67 = .ok (.ireturn, 1) := by decide +kernel
theorem dX11_name_68 : decode cX11_name 68 = .ok (.iload_n 2, 1) := by decide +kernel
theorem dX11_name_69 : decode cX11_name 69 = .ok (.iconst 1, 1) := by decide +kernel
theorem dX11_name_70 : decode cX11_name 70 = .ok (.if_icmp .ne 11, 3) := by decide +kernel
theorem dX11_name_73 : decode cX11_name 73 = .ok (.aload 5, 2) := by decide +kernel
theorem dX11_name_75 : decode cX11_name 75 = .ok (.getfield 116, 3) := by decide +kernel
theorem dX11_name_78 : decode cX11_name 78 = .ok (.goto 21, 3) := by decide +kernel
theorem dX11_name_81 : decode cX11_name 81 = .ok (.iload_n 2, 1) := by decide +kernel
theorem dX11_name_82 : decode cX11_name 82 = .ok (.iconst 2, 1) := by decide +kernel
theorem dX11_name_83 : decode cX11_name 83 = .ok (.if_icmp .ne 11, 3) := by decide +kernel
theorem dX11_name_86 : decode cX11_name 86 = .ok (.aload 5, 2) := by decide +kernel
theorem dX11_name_88 : decode cX11_name 88 = .ok (.getfield 121, 3) := by decide +kernel
theorem dX11_name_91 : decode cX11_name 91 = .ok (.goto 8, 3) := by decide +kernel
theorem dX11_name_94 : decode cX11_name 94 = .ok (.aload 5, 2) := by decide +kernel
theorem dX11_name_96 : decode cX11_name 96 = .ok (.getfield 124, 3) := by decide +kernel
theorem dX11_name_99 : decode cX11_name 99 = .ok (.iload_n 3, 1) := by decide +kernel
theorem dX11_name_100 : decode cX11_name 100 = .ok (.invokestatic 130, 3) := by decide +kernel
theorem dX11_name_103 : decode cX11_name 103 = .ok (.astore 6, 2) := by decide +kernel
theorem dX11_name_105 : decode cX11_name 105 = .ok (.aload 6, 2) := by decide +kernel
theorem dX11_name_107 : decode cX11_name 107 = .ok (.ifnonnull 7, 3) := by decide +kernel
theorem dX11_name_110 : decode cX11_name 110 = .ok (.iconst (-1), 1) := by decide +kernel
theorem dX11_name_111 : decode cX11_name 111 = .ok (.goto 13, 3) := by decide +kernel
theorem dX11_name_114 : decode cX11_name 114 = .ok (.aload 6, 2) := by decide +kernel
theorem dX11_name_116 : decode cX11_name 116 = .ok (.getfield 176, 3) := by decide +kernel
theorem dX11_name_119 : decode cX11_name 119 = .ok (.iload 4, 2) := by decide +kernel
theorem dX11_name_121 : decode cX11_name 121 = .ok (.invokestatic 172, 3) := by decide +kernel
theorem dX11_name_124 : decode cX11_name 124 = .ok (.ireturn, 1) := by decide +kernel
theorem dX11_code_0 : decode cX11_code 0 = .ok (.aload_n 0, 1) := by decide +kernel
theorem dX11_code_1 : decode cX11_code 1 = .ok (.iload_n 1, 1) := by decide +kernel
theorem dX11_code_2 : decode cX11_code 2 = .ok (.invokevirtual 109, 3) := by decide +kernel
theorem dX11_code_5 : decode cX11_code 5 = .ok (.astore 4, 2) := by decide +kernel
theorem dX11_code_7 : decode cX11_code 7 = .ok (.aload 4, 2) := by decide +kernel
theorem dX11_code_9 : decode cX11_code 9 = .ok (.ifnull 25, 3) := by decide +kernel
theorem dX11_code_12 : decode cX11_code 12 = .ok (.iload_n 2, 1) := by decide +kernel
theorem dX11_code_13 : decode cX11_code 13 = .ok (.ifCond .lt 21, 3) := by decide +kernel
theorem dX11_code_16 : decode cX11_code 16 = .ok (.iload_n 2, 1) := by decide +kernel
theorem dX11_code_17 : decode cX11_code 17 = .ok (.aload 4, 2) := by decide +kernel
theorem dX11_code_19 : decode cX11_code 19 = .ok (.getfield 119, 3) := by decide +kernel
theorem dX11_code_22 : decode cX11_code 22 = .ok (.if_icmp .ge 12, 3) := by decide +kernel
theorem dX11_code_25 : decode cX11_code 25 = .ok (.iload_n 3, 1) := by decide +kernel
theorem dX11_code_26 : decode cX11_code 26 = .ok (.ifCond .lt 8, 3) := by decide +kernel
theorem dX11_code_29 : decode cX11_code 29 = .ok (.iload_n 3, 1) := by decide +kernel
theorem dX11_code_30 : decode cX11_code 30 = .ok (.iconst 1, 1) := by decide +kernel
theorem dX11_code_31 : decode cX11_code 31 = .ok (.if_icmp .le 5, 3) := by decide +kernel
theorem dX11_code_34 : decode cX11_code 34 = .ok (.iconst (-1), 1) := by decide +kernel
theorem dX11_code_35 : decode cX11_code 35 = .ok (.ireturn, 1) := by decide +kernel
theorem dX11_code_36 : decode cX11_code 36 = .ok (.iload_n 3, 1) := by decide +kernel
theorem dX11_code_37 : decode cX11_code 37 = .ok (.ifCond .ne 13, 3) := by decide +kernel
theorem dX11_code_40 : decode cX11_code 40 = .ok (.aload 4, 2) := by decide +kernel
theorem dX11_code_42 : decode cX11_code 42 = .ok (.getfield 177, 3) := by decide +kernel
theorem dX11_code_45 : decode cX11_code 45 = .ok (.iload_n 2, 1) := by decide +kernel
theorem dX11_code_46 : decode cX11_code 46 = .ok (.iaload, 1) := by decide +kernel
theorem dX11_code_47 : decode cX11_code 47 = .ok (.goto 10, 3) := by decide +kernel
theorem dX11_code_50 : decode cX11_code 50 = .ok (.aload 4, 2) := by decide +kernel
theorem dX11_code_52 : decode cX11_code 52 = .ok (.getfield 180, 3) := by decide +kernel
theorem dX11_code_55 : decode cX11_code 55 = .ok (.iload_n 2, 1) := by decide +kernel
theorem dX11_code_56 : decode cX11_code 56 = .ok (.iaload, 1) := by decide +kernel
theorem dX11_code_57 : decode cX11_code 57 = .ok (.ireturn, 1) := by decide +kernel
theorem dX11_steps_0 : decode cX11_steps 0 = .ok (.iload_n 1, 1) := by decide +kernel
theorem dX11_steps_1 : decode cX11_steps 1 = .ok (.iconst 1, 1) := by decide +kernel
theorem dX11_steps_2 : decode cX11_steps 2 = .ok (.if_icmp .lt 10, 3) := by decide +kernel
theorem dX11_steps_5 : decode cX11_steps 5 = .ok (.iload_n 1, 1) := by decide +kernel
theorem dX11_steps_6 : decode cX11_steps 6 = .ok (.sipush 1000, 3) := by decide +kernel
theorem dX11_steps_9 : decode cX11_steps 9 = .ok (.if_icmp .le 5, 3) := by decide +kernel
theorem dX11_steps_12 : decode cX11_steps 12 = .ok (.iconst (-1), 1) := by decide +kernel
theorem dX11_steps_13 : decode cX11_steps 13 = .ok (.ireturn, 1) := by decide +kernel
theorem dX11_steps_14 : decode cX11_steps 14 = .ok (.aload_n 0, 1) := by decide +kernel
theorem dX11_steps_15 : decode cX11_steps 15 = .ok (.getfield 26, 3) := by decide +kernel
theorem dX11_steps_18 : decode cX11_steps 18 = .ok (.getfield 183, 3) := by decide +kernel
theorem dX11_steps_21 : decode cX11_steps 21 = .ok (.istore_n 2, 1) := by decide +kernel
theorem dX11_steps_22 : decode cX11_steps 22 = .ok (.aload_n 0, 1) := by decide +kernel
theorem dX11_steps_23 : decode cX11_steps 23 = .ok (.getfield 26, 3) := by decide +kernel
theorem dX11_steps_26 : decode cX11_steps 26 = .ok (.iload_n 1, 1) := by decide +kernel
theorem dX11_steps_27 : decode cX11_steps 27 = .ok (.putfield 183, 3) := by decide +kernel
theorem dX11_steps_30 : decode cX11_steps 30 = .ok (.iload_n 2, 1) := by decide +kernel
theorem dX11_steps_31 : decode cX11_steps 31 = .ok (.ireturn, 1) := by decide +kernel
theorem dX11_seed_0 : decode cX11_seed 0 = .ok (.aload_n 0, 1) := by decide +kernel
theorem dX11_seed_1 : decode cX11_seed 1 = .ok (.getfield 26, 3) := by decide +kernel
theorem dX11_seed_4 : decode cX11_seed 4 = .ok (.getfield 186, 3) := by decide +kernel
theorem dX11_seed_7 : decode cX11_seed 7 = .ok (.istore_n 2, 1) := by decide +kernel
theorem dX11_seed_8 : decode cX11_seed 8 = .ok (.aload_n 0, 1) := by decide +kernel
theorem dX11_seed_9 : decode cX11_seed 9 = .ok (.getfield 26, 3) := by decide +kernel
theorem dX11_seed_12 : decode cX11_seed 12 = .ok (.iload_n 1, 1) := by decide +kernel
theorem dX11_seed_13 : decode cX11_seed 13 = .ok (.putfield 186, 3) := by decide +kernel
theorem dX11_seed_16 : decode cX11_seed 16 = .ok (.iload_n 2, 1) := by decide +kernel
theorem dX11_seed_17 : decode cX11_seed 17 = .ok (.ireturn, 1) := by decide +kernel
theorem dX11_swap_0 : decode cX11_swap 0 = .ok (.aload_n 0, 1) := by decide +kernel
theorem dX11_swap_1 : decode cX11_swap 1 = .ok (.iload_n 1, 1) := by decide +kernel
theorem dX11_swap_2 : decode cX11_swap 2 = .ok (.invokevirtual 109, 3) := by decide +kernel
theorem dX11_swap_5 : decode cX11_swap 5 = .ok (.astore 4, 2) := by decide +kernel
theorem dX11_swap_7 : decode cX11_swap 7 = .ok (.aload 4, 2) := by decide +kernel
theorem dX11_swap_9 : decode cX11_swap 9 = .ok (.ifnull 31, 3) := by decide +kernel
theorem dX11_swap_12 : decode cX11_swap 12 = .ok (.iload_n 2, 1) := by decide +kernel
theorem dX11_swap_13 : decode cX11_swap 13 = .ok (.ifCond .lt 27, 3) := by decide +kernel
theorem dX11_swap_16 : decode cX11_swap 16 = .ok (.iload_n 2, 1) := by decide +kernel
theorem dX11_swap_17 : decode cX11_swap 17 = .ok (.aload 4, 2) := by decide +kernel
theorem dX11_swap_19 : decode cX11_swap 19 = .ok (.getfield 189, 3) := by decide +kernel
theorem dX11_swap_22 : decode cX11_swap 22 = .ok (.arraylength, 1) := by decide +kernel
theorem dX11_swap_23 : decode cX11_swap 23 = .ok (.if_icmp .ge 17, 3) := by decide +kernel
theorem dX11_swap_26 : decode cX11_swap 26 = .ok (.iload_n 3, 1) := by decide +kernel
theorem dX11_swap_27 : decode cX11_swap 27 = .ok (.ifCond .lt 13, 3) := by decide +kernel
theorem dX11_swap_30 : decode cX11_swap 30 = .ok (.iload_n 3, 1) := by decide +kernel
theorem dX11_swap_31 : decode cX11_swap 31 = .ok (.aload 4, 2) := by decide +kernel
theorem dX11_swap_33 : decode cX11_swap 33 = .ok (.getfield 189, 3) := by decide +kernel
theorem dX11_swap_36 : decode cX11_swap 36 = .ok (.arraylength, 1) := by decide +kernel
theorem dX11_swap_37 : decode cX11_swap 37 = .ok (.if_icmp .lt 5, 3) := by decide +kernel
theorem dX11_swap_40 : decode cX11_swap 40 = .ok (.iconst (-1), 1) := by decide +kernel
theorem dX11_swap_41 : decode cX11_swap 41 = .ok (.ireturn, 1) := by decide +kernel
theorem dX11_swap_42 : decode cX11_swap 42 = .ok (.aload 4, 2) := by decide +kernel
theorem dX11_swap_44 : decode cX11_swap 44 = .ok (.getfield 189, 3) := by decide +kernel
theorem dX11_swap_47 : decode cX11_swap 47 = .ok (.iload_n 2, 1) := by decide +kernel
theorem dX11_swap_48 : decode cX11_swap 48 = .ok (.iaload, 1) := by decide +kernel
theorem dX11_swap_49 : decode cX11_swap 49 = .ok (.istore 5, 2) := by decide +kernel
theorem dX11_swap_51 : decode cX11_swap 51 = .ok (.aload 4, 2) := by decide +kernel
theorem dX11_swap_53 : decode cX11_swap 53 = .ok (.getfield 189, 3) := by decide +kernel
theorem dX11_swap_56 : decode cX11_swap 56 = .ok (.iload_n 2, 1) := by decide +kernel
theorem dX11_swap_57 : decode cX11_swap 57 = .ok (.aload 4, 2) := by decide +kernel
theorem dX11_swap_59 : decode cX11_swap 59 = .ok (.getfield 189, 3) := by decide +kernel
theorem dX11_swap_62 : decode cX11_swap 62 = .ok (.iload_n 3, 1) := by decide +kernel
theorem dX11_swap_63 : decode cX11_swap 63 = .ok (.iaload, 1) := by decide +kernel
theorem dX11_swap_64 : decode cX11_swap 64 = .ok (.iastore, 1) := by decide +kernel
theorem dX11_swap_65 : decode cX11_swap 65 = .ok (.aload 4, 2) := by decide +kernel
theorem dX11_swap_67 : decode cX11_swap 67 = .ok (.getfield 189, 3) := by decide +kernel
theorem dX11_swap_70 : decode cX11_swap 70 = .ok (.iload_n 3, 1) := by decide +kernel
theorem dX11_swap_71 : decode cX11_swap 71 = .ok (.iload 5, 2) := by decide +kernel
theorem dX11_swap_73 : decode cX11_swap 73 = .ok (.iastore, 1) := by decide +kernel
theorem dX11_swap_74 : decode cX11_swap 74 = .ok (.aload 4, 2) := by decide +kernel
theorem dX11_swap_76 : decode cX11_swap 76 = .ok (.getfield 189, 3) := by decide +kernel
theorem dX11_swap_79 : decode cX11_swap 79 = .ok (.iload_n 2, 1) := by decide +kernel
theorem dX11_swap_80 : decode cX11_swap 80 = .ok (.iaload, 1) := by decide +kernel
theorem dX11_swap_81 : decode cX11_swap 81 = .ok (.ireturn, 1) := by decide +kernel
theorem dX11_run_0 : decode cX11_run 0 = .ok (.aload_n 0, 1) := by decide +kernel
theorem dX11_run_1 : decode cX11_run 1 = .ok (.iload_n 1, 1) := by decide +kernel
theorem dX11_run_2 : decode cX11_run 2 = .ok (.invokevirtual 109, 3) := by decide +kernel
theorem dX11_run_5 : decode cX11_run 5 = .ok (.astore_n 2, 1) := by decide +kernel
theorem dX11_run_6 : decode cX11_run 6 = .ok (.aload_n 2, 1) := by decide +kernel
theorem dX11_run_7 : decode cX11_run 7 = .ok (.ifnonnull 5, 3) := by decide +kernel
theorem dX11_run_10 : decode cX11_run 10 = .ok (.iconst (-1), 1) := by decide +kernel
theorem dX11_run_11 : decode cX11_run 11 = .ok (.ireturn, 1) := by decide +kernel
theorem dX11_run_12 : decode cX11_run 12 = .ok (.aload_n 0, 1) := by decide +kernel
theorem dX11_run_13 : decode cX11_run 13 = .ok (.getfield 26, 3) := by decide +kernel
theorem dX11_run_16 : decode cX11_run 16 = .ok (.aload_n 2, 1) := by decide +kernel
theorem dX11_run_17 : decode cX11_run 17 = .ok (.ldc 192, 2) := by decide +kernel
theorem dX11_run_19 : decode cX11_run 19 = .ok (.invokevirtual 193, 3) := by decide +kernel
theorem dX11_run_22 : decode cX11_run 22 = .ok (.aload_n 0, 1) := by decide +kernel
theorem dX11_run_23 : decode cX11_run 23 = .ok (.getfield 26, 3) := by decide +kernel
theorem dX11_run_26 : decode cX11_run 26 = .ok (.iconst 2, 1) := by decide +kernel
theorem dX11_run_27 : decode cX11_run 27 = .ok (.invokevirtual 197, 3) := by decide +kernel
theorem dX11_run_30 : decode cX11_run 30 = .ok (.aload_n 2, 1) := by decide +kernel
theorem dX11_run_31 : decode cX11_run 31 = .ok (.invokevirtual 200, 3) := by decide +kernel
theorem dX11_run_34 : decode cX11_run 34 = .ok (.aload_n 0, 1) := by decide +kernel
theorem dX11_run_35 : decode cX11_run 35 = .ok (.aload_n 2, 1) := by decide +kernel
theorem dX11_run_36 : decode cX11_run 36 = .ok (.aload_n 2, 1) := by decide +kernel
theorem dX11_run_37 : decode cX11_run 37 = .ok (.getfield 189, 3) := by decide +kernel
theorem dX11_run_40 : decode cX11_run 40 = .ok (.aload_n 2, 1) := by decide +kernel
theorem dX11_run_41 : decode cX11_run 41 = .ok (.getfield 189, 3) := by decide +kernel
theorem dX11_run_44 : decode cX11_run 44 = .ok (.arraylength, 1) := by decide +kernel
theorem dX11_run_45 : decode cX11_run 45 = .ok (.bipush (-2), 2) := by decide +kernel
theorem dX11_run_47 : decode cX11_run 47 = .ok (.aload_n 2, 1) := by decide +kernel
theorem dX11_run_48 : decode cX11_run 48 = .ok (.getfield 203, 3) := by decide +kernel
theorem dX11_run_51 : decode cX11_run 51 = .ok (.invokevirtual 206, 3) := by decide +kernel
theorem dX11_run_54 : decode cX11_run 54 = .ok (.aload_n 2, 1) := by decide +kernel
theorem dX11_run_55 : decode cX11_run 55 = .ok (.iconst 1, 1) := by decide +kernel
theorem dX11_run_56 : decode cX11_run 56 = .ok (.putfield 210, 3) := by decide +kernel
theorem dX11_run_59 : decode cX11_run 59 = .ok (.iconst 0, 1) := by decide +kernel
theorem dX11_run_60 : decode cX11_run 60 = .ok (.istore_n 3, 1) := by decide +kernel
theorem dX11_run_61 : decode cX11_run 61 = .ok (.iconst 0, 1) := by decide +kernel
theorem dX11_run_62 : decode cX11_run 62 = .ok (.istore 4, 2) := by decide +kernel
theorem dX11_run_64 : decode cX11_run 64 = .ok (.iload 4, 2) := by decide +kernel
theorem dX11_run_66 : decode cX11_run 66 = .ok (.aload_n 2, 1) := by decide +kernel
theorem dX11_run_67 : decode cX11_run 67 = .ok (.getfield 189, 3) := by decide +kernel
theorem dX11_run_70 : decode cX11_run 70 = .ok (.arraylength, 1) := by decide +kernel
theorem dX11_run_71 : decode cX11_run 71 = .ok (.if_icmp .ge 25, 3) := by decide +kernel
theorem dX11_run_74 : decode cX11_run 74 = .ok (.aload_n 2, 1) := by decide +kernel
theorem dX11_run_75 : decode cX11_run 75 = .ok (.getfield 203, 3) := by decide +kernel
theorem dX11_run_78 : decode cX11_run 78 = .ok (.iconst 0, 1) := by decide +kernel
theorem dX11_run_79 : decode cX11_run 79 = .ok (.aaload, 1) := by decide +kernel
theorem dX11_run_80 : decode cX11_run 80 = .ok (.iload 4, 2) := by decide +kernel
theorem dX11_run_82 : decode cX11_run 82 = .ok (.iaload, 1) := by decide +kernel
theorem dX11_run_83 : decode cX11_run 83 = .ok (.iconst 1, 1) := by decide +kernel
theorem dX11_run_84 : decode cX11_run 84 = .ok (.if_icmp .ne 6, 3) := by decide +kernel
theorem dX11_run_87 : decode cX11_run 87 = .ok (.iinc 3 1, 3) := by decide +kernel
theorem dX11_run_90 : decode cX11_run 90 = .ok (.iinc 4 1, 3) := by decide +kernel
theorem dX11_run_93 : decode cX11_run 93 = .ok (.goto (-29), 3) := by decide +kernel
theorem dX11_run_96 : decode cX11_run 96 = .ok (.iload_n 3, 1) := by decide +kernel
theorem dX11_run_97 : decode cX11_run 97 = .ok (.ireturn, 1) := by decide +kernel
theorem dX11_verdict_0 : decode cX11_verdict 0 = .ok (.aload_n 0, 1) := by decide +kernel
theorem dX11_verdict_1 : decode cX11_verdict 1 = .ok (.iload_n 1, 1) := by decide +kernel
theorem dX11_verdict_2 : decode cX11_verdict 2 = .ok (.invokevirtual 109, 3) := by decide +kernel
theorem dX11_verdict_5 : decode cX11_verdict 5 = .ok (.astore 4, 2) := by decide +kernel
theorem dX11_verdict_7 : decode cX11_verdict 7 = .ok (.aload 4, 2) := by decide +kernel
theorem dX11_verdict_9 : decode cX11_verdict 9 = .ok (.iload_n 2, 1) := by decide +kernel
theorem dX11_verdict_10 : decode cX11_verdict 10 = .ok (.invokestatic 152, 3) := by decide +kernel
theorem dX11_verdict_13 : decode cX11_verdict 13 = .ok (.ifnull 12, 3) := by decide +kernel
theorem dX11_verdict_16 : decode cX11_verdict 16 = .ok (.iload_n 3, 1) := by decide +kernel
theorem dX11_verdict_17 : decode cX11_verdict 17 = .ok (.ifCond .lt 8, 3) := by decide +kernel
theorem dX11_verdict_20 : decode cX11_verdict 20 = .ok (.iload_n 3, 1) := by decide +kernel
theorem dX11_verdict_21 : decode cX11_verdict 21 = .ok (.iconst 4, 1) := by decide +kernel
theorem dX11_verdict_22 : decode cX11_verdict 22 = .ok (.if_icmp .lt 5, 3) := by decide +kernel
theorem dX11_verdict_25 : decode cX11_verdict 25 = .ok (.iconst (-1), 1) := by decide +kernel
theorem dX11_verdict_26 : decode cX11_verdict 26 = .ok (.ireturn, 1) := by decide +kernel
theorem dX11_verdict_27 : decode cX11_verdict 27 = .ok (.aload 4, 2) := by decide +kernel
theorem dX11_verdict_29 : decode cX11_verdict 29 = .ok (.getfield 210, 3) := by decide +kernel
theorem dX11_verdict_32 : decode cX11_verdict 32 = .ok (.ifCond .eq 15, 3) := by decide +kernel
theorem dX11_verdict_35 : decode cX11_verdict 35 = .ok (.aload 4, 2) := by decide +kernel
theorem dX11_verdict_37 : decode cX11_verdict 37 = .ok (.getfield 203, 3) := by decide +kernel
theorem dX11_verdict_40 : decode cX11_verdict 40 = .ok (.iload_n 3, 1) := by decide +kernel
theorem dX11_verdict_41 : decode cX11_verdict 41 = .ok (.aaload, 1) := by decide +kernel
theorem dX11_verdict_42 : decode cX11_verdict 42 = .ok (.iload_n 2, 1) := by decide +kernel
theorem dX11_verdict_43 : decode cX11_verdict 43 = .ok (.iaload, 1) := by decide +kernel
theorem dX11_verdict_44 : decode cX11_verdict 44 = .ok (.goto 5, 3) := by decide +kernel
theorem dX11_verdict_47 : decode cX11_verdict 47 = .ok (.bipush (-2), 2) := by decide +kernel
theorem dX11_verdict_49 : decode cX11_verdict 49 = .ok (.ireturn, 1) := by decide +kernel
theorem dX11_cover_0 : decode cX11_cover 0 = .ok (.aload_n 0, 1) := by decide +kernel
theorem dX11_cover_1 : decode cX11_cover 1 = .ok (.iload_n 1, 1) := by decide +kernel
theorem dX11_cover_2 : decode cX11_cover 2 = .ok (.invokevirtual 109, 3) := by decide +kernel
theorem dX11_cover_5 : decode cX11_cover 5 = .ok (.astore 4, 2) := by decide +kernel
theorem dX11_cover_7 : decode cX11_cover 7 = .ok (.aload 4, 2) := by decide +kernel
theorem dX11_cover_9 : decode cX11_cover 9 = .ok (.ifnull 25, 3) := by decide +kernel
theorem dX11_cover_12 : decode cX11_cover 12 = .ok (.iload_n 2, 1) := by decide +kernel
theorem dX11_cover_13 : decode cX11_cover 13 = .ok (.ifCond .lt 21, 3) := by decide +kernel
theorem dX11_cover_16 : decode cX11_cover 16 = .ok (.iload_n 2, 1) := by decide +kernel
theorem dX11_cover_17 : decode cX11_cover 17 = .ok (.aload 4, 2) := by decide +kernel
theorem dX11_cover_19 : decode cX11_cover 19 = .ok (.getfield 119, 3) := by decide +kernel
theorem dX11_cover_22 : decode cX11_cover 22 = .ok (.if_icmp .ge 12, 3) := by decide +kernel
theorem dX11_cover_25 : decode cX11_cover 25 = .ok (.iload_n 3, 1) := by decide +kernel
theorem dX11_cover_26 : decode cX11_cover 26 = .ok (.ifCond .lt 8, 3) := by decide +kernel
theorem dX11_cover_29 : decode cX11_cover 29 = .ok (.iload_n 3, 1) := by decide +kernel
theorem dX11_cover_30 : decode cX11_cover 30 = .ok (.iconst 1, 1) := by decide +kernel
theorem dX11_cover_31 : decode cX11_cover 31 = .ok (.if_icmp .le 5, 3) := by decide +kernel
theorem dX11_cover_34 : decode cX11_cover 34 = .ok (.iconst (-1), 1) := by decide +kernel
theorem dX11_cover_35 : decode cX11_cover 35 = .ok (.ireturn, 1) := by decide +kernel
theorem dX11_cover_36 : decode cX11_cover 36 = .ok (.aload 4, 2) := by decide +kernel
theorem dX11_cover_38 : decode cX11_cover 38 = .ok (.getfield 210, 3) := by decide +kernel
theorem dX11_cover_41 : decode cX11_cover 41 = .ok (.ifCond .eq 23, 3) := by decide +kernel
theorem dX11_cover_44 : decode cX11_cover 44 = .ok (.aload 4, 2) := by decide +kernel
theorem dX11_cover_46 : decode cX11_cover 46 = .ok (.getfield 213, 3) := by decide +kernel
theorem dX11_cover_49 : decode cX11_cover 49 = .ok (.iload_n 3, 1) := by decide +kernel
theorem dX11_cover_50 : decode cX11_cover 50 = .ok (.ifCond .ne 7, 3) := by decide +kernel
theorem dX11_cover_53 : decode cX11_cover 53 = .ok (.iconst 0, 1) := by decide +kernel
theorem dX11_cover_54 : decode cX11_cover 54 = .ok (.goto 4, 3) := by decide +kernel
theorem dX11_cover_57 : decode cX11_cover 57 = .ok (.iconst 1, 1) := by decide +kernel
theorem dX11_cover_58 : decode cX11_cover 58 = .ok (.aaload, 1) := by decide +kernel
theorem dX11_cover_59 : decode cX11_cover 59 = .ok (.iload_n 2, 1) := by decide +kernel
theorem dX11_cover_60 : decode cX11_cover 60 = .ok (.iaload, 1) := by decide +kernel
theorem dX11_cover_61 : decode cX11_cover 61 = .ok (.goto 5, 3) := by decide +kernel
theorem dX11_cover_64 : decode cX11_cover 64 = .ok (.bipush (-2), 2) := by decide +kernel
theorem dX11_cover_66 : decode cX11_cover 66 = .ok (.ireturn, 1) := by decide +kernel
theorem dX11_alone_0 : decode cX11_alone 0 = .ok (.aload_n 0, 1) := by decide +kernel
theorem dX11_alone_1 : decode cX11_alone 1 = .ok (.iload_n 1, 1) := by decide +kernel
theorem dX11_alone_2 : decode cX11_alone 2 = .ok (.invokevirtual 109, 3) := by decide +kernel
theorem dX11_alone_5 : decode cX11_alone 5 = .ok (.astore_n 3, 1) := by decide +kernel
theorem dX11_alone_6 : decode cX11_alone 6 = .ok (.aload_n 3, 1) := by decide +kernel
theorem dX11_alone_7 : decode cX11_alone 7 = .ok (.iload_n 2, 1) := by decide +kernel
theorem dX11_alone_8 : decode cX11_alone 8 = .ok (.invokestatic 152, 3) := by decide +kernel
theorem dX11_alone_11 : decode cX11_alone 11 = .ok (.astore 4, 2) := by decide +kernel
theorem dX11_alone_13 : decode cX11_alone 13 = .ok (.aload 4, 2) := by decide +kernel
theorem dX11_alone_15 : decode cX11_alone 15 = .ok (.ifnonnull 5, 3) := by decide +kernel
theorem dX11_alone_18 : decode cX11_alone 18 = .ok (.iconst (-1), 1) := by decide +kernel
theorem dX11_alone_19 : decode cX11_alone 19 = .ok (.ireturn, 1) := by decide +kernel
theorem dX11_alone_20 : decode cX11_alone 20 = .ok (.aload_n 0, 1) := by decide +kernel
theorem dX11_alone_21 : decode cX11_alone 21 = .ok (.getfield 26, 3) := by decide +kernel
theorem dX11_alone_24 : decode cX11_alone 24 = .ok (.aload_n 3, 1) := by decide +kernel
theorem dX11_alone_25 : decode cX11_alone 25 = .ok (.ldc 192, 2) := by decide +kernel
theorem dX11_alone_27 : decode cX11_alone 27 = .ok (.invokevirtual 193, 3) := by decide +kernel
theorem dX11_alone_30 : decode cX11_alone 30 = .ok (.aload_n 0, 1) := by decide +kernel
theorem dX11_alone_31 : decode cX11_alone 31 = .ok (.aload 4, 2) := by decide +kernel
theorem dX11_alone_33 : decode cX11_alone 33 = .ok (.invokevirtual 216, 3) := by decide +kernel
theorem dX11_alone_36 : decode cX11_alone 36 = .ok (.ireturn, 1) := by decide +kernel
theorem dX11_told_0 : decode cX11_told 0 = .ok (.aload_n 0, 1) := by decide +kernel
theorem dX11_told_1 : decode cX11_told 1 = .ok (.getfield 220, 3) := by decide +kernel
theorem dX11_told_4 : decode cX11_told 4 = .ok (.ifCond .eq 12, 3) := by decide +kernel
theorem dX11_told_7 : decode cX11_told 7 = .ok (.iload_n 1, 1) := by decide +kernel
theorem dX11_told_8 : decode cX11_told 8 = .ok (.ifCond .lt 8, 3) := by decide +kernel
theorem dX11_told_11 : decode cX11_told 11 = .ok (.iload_n 1, 1) := by decide +kernel
theorem dX11_told_12 : decode cX11_told 12 = .ok (.iconst 3, 1) := by decide +kernel
theorem dX11_told_13 : decode cX11_told 13 = .ok (.if_icmp .le 5, 3) := by decide +kernel
theorem dX11_told_16 : decode cX11_told 16 = .ok (.iconst (-1), 1) := by decide +kernel
theorem dX11_told_17 : decode cX11_told 17 = .ok (.ireturn, 1) := by decide +kernel
theorem dX11_told_18 : decode cX11_told 18 = .ok (.iload_n 1, 1) := by decide +kernel
theorem dX11_told_19 : decode cX11_told 19 = .ok (.tableswitch 49 0 2 #[25, 33, 41], 25) := by decide +kernel
theorem dX11_told_44 : decode cX11_told 44 = .ok (.aload_n 0, 1) := by decide +kernel
theorem dX11_told_45 : decode cX11_told 45 = .ok (.getfield 39, 3) := by decide +kernel
theorem dX11_told_48 : decode cX11_told 48 = .ok (.getfield 223, 3) := by decide +kernel
theorem dX11_told_51 : decode cX11_told 51 = .ok (.ireturn, 1) := by decide +kernel
theorem dX11_told_52 : decode cX11_told 52 = .ok (.aload_n 0, 1) := by decide +kernel
theorem dX11_told_53 : decode cX11_told 53 = .ok (.getfield 39, 3) := by decide +kernel
theorem dX11_told_56 : decode cX11_told 56 = .ok (.getfield 226, 3) := by decide +kernel
theorem dX11_told_59 : decode cX11_told 59 = .ok (.ireturn, 1) := by decide +kernel
theorem dX11_told_60 : decode cX11_told 60 = .ok (.aload_n 0, 1) := by decide +kernel
theorem dX11_told_61 : decode cX11_told 61 = .ok (.getfield 39, 3) := by decide +kernel
theorem dX11_told_64 : decode cX11_told 64 = .ok (.getfield 229, 3) := by decide +kernel
theorem dX11_told_67 : decode cX11_told 67 = .ok (.ireturn, 1) := by decide +kernel
theorem dX11_told_68 : decode cX11_told 68 = .ok (.aload_n 0, 1) := by decide +kernel
theorem dX11_told_69 : decode cX11_told 69 = .ok (.getfield 39, 3) := by decide +kernel
theorem dX11_told_72 : decode cX11_told 72 = .ok (.getfield 232, 3) := by decide +kernel
theorem dX11_told_75 : decode cX11_told 75 = .ok (.ireturn, 1) := by decide +kernel
theorem dX11_twin_0 : decode cX11_twin 0 = .ok (.aload_n 0, 1) := by decide +kernel
theorem dX11_twin_1 : decode cX11_twin 1 = .ok (.iload_n 1, 1) := by decide +kernel
theorem dX11_twin_2 : decode cX11_twin 2 = .ok (.invokevirtual 109, 3) := by decide +kernel
theorem dX11_twin_5 : decode cX11_twin 5 = .ok (.astore_n 3, 1) := by decide +kernel
theorem dX11_twin_6 : decode cX11_twin 6 = .ok (.aload_n 3, 1) := by decide +kernel
theorem dX11_twin_7 : decode cX11_twin 7 = .ok (.ifnonnull 7, 3) := by decide +kernel
theorem dX11_twin_10 : decode cX11_twin 10 = .ok (.aconst_null, 1) := by decide +kernel
theorem dX11_twin_11 : decode cX11_twin 11 = .ok (.goto 11, 3) := by decide +kernel
theorem dX11_twin_14 : decode cX11_twin 14 = .ok (.aload_n 3, 1) := by decide +kernel
theorem dX11_twin_15 : decode cX11_twin 15 = .ok (.getfield 116, 3) := by decide +kernel
theorem dX11_twin_18 : decode cX11_twin 18 = .ok (.iload_n 2, 1) := by decide +kernel
theorem dX11_twin_19 : decode cX11_twin 19 = .ok (.invokestatic 130, 3) := by decide +kernel
theorem dX11_twin_22 : decode cX11_twin 22 = .ok (.astore 4, 2) := by decide +kernel
theorem dX11_twin_24 : decode cX11_twin 24 = .ok (.aload 4, 2) := by decide +kernel
theorem dX11_twin_26 : decode cX11_twin 26 = .ok (.ifnull 12, 3) := by decide +kernel
theorem dX11_twin_29 : decode cX11_twin 29 = .ok (.aload 4, 2) := by decide +kernel
theorem dX11_twin_31 : decode cX11_twin 31 = .ok (.getfield 139, 3) := by decide +kernel
theorem dX11_twin_34 : decode cX11_twin 34 = .ok (.iconst 4, 1) := by decide +kernel
theorem dX11_twin_35 : decode cX11_twin 35 = .ok (.if_icmp .eq 5, 3) := by decide +kernel
theorem dX11_twin_38 : decode cX11_twin 38 = .ok (.iconst (-1), 1) := by decide +kernel
theorem dX11_twin_39 : decode cX11_twin 39 = .ok (.ireturn, 1) := by decide +kernel
theorem dX11_twin_40 : decode cX11_twin 40 = .ok (.aconst_null, 1) := by decide +kernel
theorem dX11_twin_41 : decode cX11_twin 41 = .ok (.astore 5, 2) := by decide +kernel
theorem dX11_twin_43 : decode cX11_twin 43 = .ok (.iconst 0, 1) := by decide +kernel
theorem dX11_twin_44 : decode cX11_twin 44 = .ok (.istore 6, 2) := by decide +kernel
theorem dX11_twin_46 : decode cX11_twin 46 = .ok (.iload 6, 2) := by decide +kernel
theorem dX11_twin_48 : decode cX11_twin 48 = .ok (.bipush 8, 2) := by decide +kernel
theorem dX11_twin_50 : decode cX11_twin 50 = .ok (.if_icmp .ge 58, 3) := by decide +kernel
theorem dX11_twin_53 : decode cX11_twin 53 = .ok (.aload_n 0, 1) := by decide +kernel
theorem dX11_twin_54 : decode cX11_twin 54 = .ok (.getfield 26, 3) := by decide +kernel
theorem dX11_twin_57 : decode cX11_twin 57 = .ok (.getfield 235, 3) := by decide +kernel
theorem dX11_twin_60 : decode cX11_twin 60 = .ok (.iload 6, 2) := by decide +kernel
theorem dX11_twin_62 : decode cX11_twin 62 = .ok (.aaload, 1) := by decide +kernel
theorem dX11_twin_63 : decode cX11_twin 63 = .ok (.iload_n 1, 1) := by decide +kernel
theorem dX11_twin_64 : decode cX11_twin 64 = .ok (.iload_n 2, 1) := by decide +kernel
theorem dX11_twin_65 : decode cX11_twin 65 = .ok (.invokevirtual 239, 3) := by decide +kernel
theorem dX11_twin_68 : decode cX11_twin 68 = .ok (.ifCond .eq 6, 3) := by decide +kernel
theorem dX11_twin_71 : decode cX11_twin 71 = .ok (.bipush (-2), 2) := by decide +kernel
theorem dX11_twin_73 : decode cX11_twin 73 = .ok (.ireturn, 1) := by decide +kernel
theorem dX11_twin_74 : decode cX11_twin 74 = .ok (.aload_n 0, 1) := by decide +kernel
theorem dX11_twin_75 : decode cX11_twin 75 = .ok (.getfield 26, 3) := by decide +kernel
theorem dX11_twin_78 : decode cX11_twin 78 = .ok (.getfield 235, 3) := by decide +kernel
theorem dX11_twin_81 : decode cX11_twin 81 = .ok (.iload 6, 2) := by decide +kernel
theorem dX11_twin_83 : decode cX11_twin 83 = .ok (.aaload, 1) := by decide +kernel
theorem dX11_twin_84 : decode cX11_twin 84 = .ok (.getfield 245, 3) := by decide +kernel
theorem dX11_twin_87 : decode cX11_twin 87 = .ok (.ifCond .ge 15, 3) := by decide +kernel
theorem dX11_twin_90 : decode cX11_twin 90 = .ok (.aload_n 0, 1) := by decide +kernel
theorem dX11_twin_91 : decode cX11_twin 91 = .ok (.getfield 26, 3) := by decide +kernel
theorem dX11_twin_94 : decode cX11_twin 94 = .ok (.getfield 235, 3) := by decide +kernel
theorem dX11_twin_97 : decode cX11_twin 97 = .ok (.iload 6, 2) := by decide +kernel
theorem dX11_twin_99 : decode cX11_twin 99 = .ok (.aaload, 1) := by decide +kernel
theorem dX11_twin_100 : decode cX11_twin 100 = .ok (.astore 5, 2) := by decide +kernel
theorem dX11_twin_102 : decode cX11_twin 102 = .ok (.iinc 6 1, 3) := by decide +kernel
theorem dX11_twin_105 : decode cX11_twin 105 = .ok (.goto (-59), 3) := by decide +kernel
theorem dX11_twin_108 : decode cX11_twin 108 = .ok (.aload 5, 2) := by decide +kernel
theorem dX11_twin_110 : decode cX11_twin 110 = .ok (.ifnonnull 6, 3) := by decide +kernel
theorem dX11_twin_113 : decode cX11_twin 113 = .ok (.bipush (-3), 2) := by decide +kernel
theorem dX11_twin_115 : decode cX11_twin 115 = .ok (.ireturn, 1) := by decide +kernel
theorem dX11_twin_116 : decode cX11_twin 116 = .ok (.aload 5, 2) := by decide +kernel
theorem dX11_twin_118 : decode cX11_twin 118 = .ok (.aload_n 0, 1) := by decide +kernel
theorem dX11_twin_119 : decode cX11_twin 119 = .ok (.getfield 248, 3) := by decide +kernel
theorem dX11_twin_122 : decode cX11_twin 122 = .ok (.iload_n 1, 1) := by decide +kernel
theorem dX11_twin_123 : decode cX11_twin 123 = .ok (.iload_n 2, 1) := by decide +kernel
theorem dX11_twin_124 : decode cX11_twin 124 = .ok (.aload 4, 2) := by decide +kernel
theorem dX11_twin_126 : decode cX11_twin 126 = .ok (.getfield 146, 3) := by decide +kernel
theorem dX11_twin_129 : decode cX11_twin 129 = .ok (.invokevirtual 251, 3) := by decide +kernel
theorem dX11_twin_132 : decode cX11_twin 132 = .ok (.aload_n 0, 1) := by decide +kernel
theorem dX11_twin_133 : decode cX11_twin 133 = .ok (.dup, 1) := by decide +kernel
theorem dX11_twin_134 : decode cX11_twin 134 = .ok (.getfield 248, 3) := by decide +kernel
theorem dX11_twin_137 : decode cX11_twin 137 = .ok (.dup_x1, 1) := by decide +kernel
theorem dX11_twin_138 : decode cX11_twin 138 = .ok (.iconst 1, 1) := by decide +kernel
theorem dX11_twin_139 : decode cX11_twin 139 = .ok (.iadd, 1) := by decide +kernel
theorem dX11_twin_140 : decode cX11_twin 140 = .ok (.putfield 248, 3) := by decide +kernel
theorem dX11_twin_143 : decode cX11_twin 143 = .ok (.ireturn, 1) := by decide +kernel
theorem dX11_rule_0 : decode cX11_rule 0 = .ok (.aload_n 0, 1) := by decide +kernel
theorem dX11_rule_1 : decode cX11_rule 1 = .ok (.iload_n 1, 1) := by decide +kernel
theorem dX11_rule_2 : decode cX11_rule 2 = .ok (.invokevirtual 255, 3) := by decide +kernel
theorem dX11_rule_5 : decode cX11_rule 5 = .ok (.astore 6, 2) := by decide +kernel
theorem dX11_rule_7 : decode cX11_rule 7 = .ok (.aload 6, 2) := by decide +kernel
theorem dX11_rule_9 : decode cX11_rule 9 = .ok (.ifnull 17, 3) := by decide +kernel
theorem dX11_rule_12 : decode cX11_rule 12 = .ok (.iload_n 2, 1) := by decide +kernel
theorem dX11_rule_13 : decode cX11_rule 13 = .ok (.iconst (-1), 1) := by decide +kernel
theorem dX11_rule_14 : decode cX11_rule 14 = .ok (.if_icmp .lt 12, 3) := by decide +kernel
theorem dX11_rule_17 : decode cX11_rule 17 = .ok (.iload_n 2, 1) := by decide +kernel
theorem dX11_rule_18 : decode cX11_rule 18 = .ok (.aload 6, 2) := by decide +kernel
theorem dX11_rule_20 : decode cX11_rule 20 = .ok (.getfield 259, 3) := by decide +kernel
theorem dX11_rule_23 : decode cX11_rule 23 = .ok (.if_icmp .lt 5, 3) := by decide +kernel
theorem dX11_rule_26 : decode cX11_rule 26 = .ok (.iconst (-1), 1) := by decide +kernel
theorem dX11_rule_27 : decode cX11_rule 27 = .ok (.ireturn, 1) := by decide +kernel
theorem dX11_rule_28 : decode cX11_rule 28 = .ok (.aload 6, 2) := by decide +kernel
theorem dX11_rule_30 : decode cX11_rule 30 = .ok (.getfield 262, 3) := by decide +kernel
theorem dX11_rule_33 : decode cX11_rule 33 = .ok (.bipush 8, 2) := by decide +kernel
theorem dX11_rule_35 : decode cX11_rule 35 = .ok (.if_icmp .lt 8, 3) := by decide +kernel
theorem dX11_rule_38 : decode cX11_rule 38 = .ok (.bipush (-3), 2) := by decide +kernel
theorem dX11_rule_40 : decode cX11_rule 40 = .ok (.goto 14, 3) := by decide +kernel
theorem dX11_rule_43 : decode cX11_rule 43 = .ok (.aload 6, 2) := by decide +kernel
theorem dX11_rule_45 : decode cX11_rule 45 = .ok (.iload_n 2, 1) := by decide +kernel
theorem dX11_rule_46 : decode cX11_rule 46 = .ok (.iload_n 3, 1) := by decide +kernel
theorem dX11_rule_47 : decode cX11_rule 47 = .ok (.iload 4, 2) := by decide +kernel
theorem dX11_rule_49 : decode cX11_rule 49 = .ok (.iload 5, 2) := by decide +kernel
theorem dX11_rule_51 : decode cX11_rule 51 = .ok (.invokevirtual 265, 3) := by decide +kernel
theorem dX11_rule_54 : decode cX11_rule 54 = .ok (.ireturn, 1) := by decide +kernel
theorem dX11_drop_0 : decode cX11_drop 0 = .ok (.aload_n 0, 1) := by decide +kernel
theorem dX11_drop_1 : decode cX11_drop 1 = .ok (.iload_n 1, 1) := by decide +kernel
theorem dX11_drop_2 : decode cX11_drop 2 = .ok (.invokevirtual 255, 3) := by decide +kernel
theorem dX11_drop_5 : decode cX11_drop 5 = .ok (.astore_n 2, 1) := by decide +kernel
theorem dX11_drop_6 : decode cX11_drop 6 = .ok (.aload_n 2, 1) := by decide +kernel
theorem dX11_drop_7 : decode cX11_drop 7 = .ok (.ifnonnull 5, 3) := by decide +kernel
theorem dX11_drop_10 : decode cX11_drop 10 = .ok (.iconst (-1), 1) := by decide +kernel
theorem dX11_drop_11 : decode cX11_drop 11 = .ok (.ireturn, 1) := by decide +kernel
theorem dX11_drop_12 : decode cX11_drop 12 = .ok (.aload_n 2, 1) := by decide +kernel
theorem dX11_drop_13 : decode cX11_drop 13 = .ok (.bipush (-2), 2) := by decide +kernel
theorem dX11_drop_15 : decode cX11_drop 15 = .ok (.putfield 245, 3) := by decide +kernel
theorem dX11_drop_18 : decode cX11_drop 18 = .ok (.aload_n 2, 1) := by decide +kernel
theorem dX11_drop_19 : decode cX11_drop 19 = .ok (.getfield 262, 3) := by decide +kernel
theorem dX11_drop_22 : decode cX11_drop 22 = .ok (.ireturn, 1) := by decide +kernel
theorem dX11_calls_0 : decode cX11_calls 0 = .ok (.aload_n 0, 1) := by decide +kernel
theorem dX11_calls_1 : decode cX11_calls 1 = .ok (.iload_n 1, 1) := by decide +kernel
theorem dX11_calls_2 : decode cX11_calls 2 = .ok (.invokevirtual 255, 3) := by decide +kernel
theorem dX11_calls_5 : decode cX11_calls 5 = .ok (.astore 4, 2) := by decide +kernel
theorem dX11_calls_7 : decode cX11_calls 7 = .ok (.aload 4, 2) := by decide +kernel
theorem dX11_calls_9 : decode cX11_calls 9 = .ok (.ifnonnull 5, 3) := by decide +kernel
theorem dX11_calls_12 : decode cX11_calls 12 = .ok (.iconst (-1), 1) := by decide +kernel
theorem dX11_calls_13 : decode cX11_calls 13 = .ok (.ireturn, 1) := by decide +kernel
theorem dX11_calls_14 : decode cX11_calls 14 = .ok (.iload_n 2, 1) := by decide +kernel
theorem dX11_calls_15 : decode cX11_calls 15 = .ok (.iconst (-1), 1) := by decide +kernel
theorem dX11_calls_16 : decode cX11_calls 16 = .ok (.if_icmp .ne 9, 3) := by decide +kernel
theorem dX11_calls_19 : decode cX11_calls 19 = .ok (.aload 4, 2) := by decide +kernel
theorem dX11_calls_21 : decode cX11_calls 21 = .ok (.getfield 269, 3) := by decide +kernel
theorem dX11_calls_24 : decode cX11_calls 24 = .ok (.ireturn, 1) := by decide +kernel
theorem dX11_calls_25 : decode cX11_calls 25 = .ok (.iload_n 2, 1) := by decide +kernel
theorem dX11_calls_26 : decode cX11_calls 26 = .ok (.ifCond .lt 32, 3) := by decide +kernel
theorem dX11_calls_29 : decode cX11_calls 29 = .ok (.iload_n 2, 1) := by decide +kernel
theorem dX11_calls_30 : decode cX11_calls 30 = .ok (.bipush 50, 2) := by decide +kernel
theorem dX11_calls_32 : decode cX11_calls 32 = .ok (.if_icmp .ge 26, 3) := by decide +kernel
theorem dX11_calls_35 : decode cX11_calls 35 = .ok (.iload_n 2, 1) := by decide +kernel
theorem dX11_calls_36 : decode cX11_calls 36 = .ok (.aload 4, 2) := by decide +kernel
theorem dX11_calls_38 : decode cX11_calls 38 = .ok (.getfield 269, 3) := by decide +kernel
theorem dX11_calls_41 : decode cX11_calls 41 = .ok (.if_icmp .ge 17, 3) := by decide +kernel
theorem dX11_calls_44 : decode cX11_calls 44 = .ok (.iload_n 3, 1) := by decide +kernel
theorem dX11_calls_45 : decode cX11_calls 45 = .ok (.iconst (-1), 1) := by decide +kernel
theorem dX11_calls_46 : decode cX11_calls 46 = .ok (.if_icmp .lt 12, 3) := by decide +kernel
theorem dX11_calls_49 : decode cX11_calls 49 = .ok (.iload_n 3, 1) := by decide +kernel
theorem dX11_calls_50 : decode cX11_calls 50 = .ok (.aload 4, 2) := by decide +kernel
theorem dX11_calls_52 : decode cX11_calls 52 = .ok (.getfield 259, 3) := by decide +kernel
theorem dX11_calls_55 : decode cX11_calls 55 = .ok (.if_icmp .lt 5, 3) := by decide +kernel
theorem dX11_calls_58 : decode cX11_calls 58 = .ok (.iconst (-1), 1) := by decide +kernel
theorem dX11_calls_59 : decode cX11_calls 59 = .ok (.ireturn, 1) := by decide +kernel
theorem dX11_calls_60 : decode cX11_calls 60 = .ok (.iload_n 3, 1) := by decide +kernel
theorem dX11_calls_61 : decode cX11_calls 61 = .ok (.iconst (-1), 1) := by decide +kernel
theorem dX11_calls_62 : decode cX11_calls 62 = .ok (.if_icmp .ne 13, 3) := by decide +kernel
theorem dX11_calls_65 : decode cX11_calls 65 = .ok (.aload 4, 2) := by decide +kernel
theorem dX11_calls_67 : decode cX11_calls 67 = .ok (.getfield 272, 3) := by decide +kernel
theorem dX11_calls_70 : decode cX11_calls 70 = .ok (.iload_n 2, 1) := by decide +kernel
theorem dX11_calls_71 : decode cX11_calls 71 = .ok (.iaload, 1) := by decide +kernel
theorem dX11_calls_72 : decode cX11_calls 72 = .ok (.goto 14, 3) := by decide +kernel
theorem dX11_calls_75 : decode cX11_calls 75 = .ok (.aload 4, 2) := by decide +kernel
theorem dX11_calls_77 : decode cX11_calls 77 = .ok (.getfield 275, 3) := by decide +kernel
theorem dX11_calls_80 : decode cX11_calls 80 = .ok (.iload_n 2, 1) := by decide +kernel
theorem dX11_calls_81 : decode cX11_calls 81 = .ok (.iconst 4, 1) := by decide +kernel
theorem dX11_calls_82 : decode cX11_calls 82 = .ok (.imul, 1) := by decide +kernel
theorem dX11_calls_83 : decode cX11_calls 83 = .ok (.iload_n 3, 1) := by decide +kernel
theorem dX11_calls_84 : decode cX11_calls 84 = .ok (.iadd, 1) := by decide +kernel
theorem dX11_calls_85 : decode cX11_calls 85 = .ok (.iaload, 1) := by decide +kernel
theorem dX11_calls_86 : decode cX11_calls 86 = .ok (.ireturn, 1) := by decide +kernel
theorem dX11_mutant_0 : decode cX11_mutant 0 = .ok (.aload_n 0, 1) := by decide +kernel
theorem dX11_mutant_1 : decode cX11_mutant 1 = .ok (.iload_n 1, 1) := by decide +kernel
theorem dX11_mutant_2 : decode cX11_mutant 2 = .ok (.invokevirtual 109, 3) := by decide +kernel
theorem dX11_mutant_5 : decode cX11_mutant 5 = .ok (.astore 4, 2) := by decide +kernel
theorem dX11_mutant_7 : decode cX11_mutant 7 = .ok (.aload 4, 2) := by decide +kernel
theorem dX11_mutant_9 : decode cX11_mutant 9 = .ok (.ifnull 26, 3) := by decide +kernel
theorem dX11_mutant_12 : decode cX11_mutant 12 = .ok (.iload_n 2, 1) := by decide +kernel
theorem dX11_mutant_13 : decode cX11_mutant 13 = .ok (.ifCond .lt 22, 3) := by decide +kernel
theorem dX11_mutant_16 : decode cX11_mutant 16 = .ok (.iload_n 2, 1) := by decide +kernel
theorem dX11_mutant_17 : decode cX11_mutant 17 = .ok (.aload 4, 2) := by decide +kernel
theorem dX11_mutant_19 : decode cX11_mutant 19 = .ok (.getfield 127, 3) := by decide +kernel
theorem dX11_mutant_22 : decode cX11_mutant 22 = .ok (.arraylength, 1) := by decide +kernel
theorem dX11_mutant_23 : decode cX11_mutant 23 = .ok (.if_icmp .ge 12, 3) := by decide +kernel
theorem dX11_mutant_26 : decode cX11_mutant 26 = .ok (.iload_n 3, 1) := by decide +kernel
theorem dX11_mutant_27 : decode cX11_mutant 27 = .ok (.ifCond .lt 8, 3) := by decide +kernel
theorem dX11_mutant_30 : decode cX11_mutant 30 = .ok (.iload_n 3, 1) := by decide +kernel
theorem dX11_mutant_31 : decode cX11_mutant 31 = .ok (.iconst 2, 1) := by decide +kernel
theorem dX11_mutant_32 : decode cX11_mutant 32 = .ok (.if_icmp .le 5, 3) := by decide +kernel
theorem dX11_mutant_35 : decode cX11_mutant 35 = .ok (.iconst (-1), 1) := by decide +kernel
theorem dX11_mutant_36 : decode cX11_mutant 36 = .ok (.ireturn, 1) := by decide +kernel
theorem dX11_mutant_37 : decode cX11_mutant 37 = .ok (.iload_n 3, 1) := by decide +kernel
theorem dX11_mutant_38 : decode cX11_mutant 38 = .ok (.iconst 2, 1) := by decide +kernel
theorem dX11_mutant_39 : decode cX11_mutant 39 = .ok (.if_icmp .ne 27, 3) := by decide +kernel
theorem dX11_mutant_42 : decode cX11_mutant 42 = .ok (.aload 4, 2) := by decide +kernel
theorem dX11_mutant_44 : decode cX11_mutant 44 = .ok (.getfield 278, 3) := by decide +kernel
theorem dX11_mutant_47 : decode cX11_mutant 47 = .ok (.ifCond .eq 16, 3) := by decide +kernel
theorem dX11_mutant_50 : decode cX11_mutant 50 = .ok (.aload 4, 2) := by decide +kernel
theorem dX11_mutant_52 : decode cX11_mutant 52 = .ok (.getfield 281, 3) := by decide +kernel
theorem dX11_mutant_55 : decode cX11_mutant 55 = .ok (.iload_n 2, 1) := by decide +kernel
theorem dX11_mutant_56 : decode cX11_mutant 56 = .ok (.iaload, 1) := by decide +kernel
theorem dX11_mutant_57 : decode cX11_mutant 57 = .ok (.invokestatic 284, 3) := by decide +kernel
theorem dX11_mutant_60 : decode cX11_mutant 60 = .ok (.goto 5, 3) := by decide +kernel
theorem dX11_mutant_63 : decode cX11_mutant 63 = .ok (.bipush (-2), 2) := by decide +kernel
theorem dX11_mutant_65 : decode cX11_mutant 65 = .ok (.ireturn, 1) := by decide +kernel
theorem dX11_mutant_66 : decode cX11_mutant 66 = .ok (.aload 4, 2) := by decide +kernel
theorem dX11_mutant_68 : decode cX11_mutant 68 = .ok (.getfield 127, 3) := by decide +kernel
theorem dX11_mutant_71 : decode cX11_mutant 71 = .ok (.iload_n 2, 1) := by decide +kernel
theorem dX11_mutant_72 : decode cX11_mutant 72 = .ok (.iaload, 1) := by decide +kernel
theorem dX11_mutant_73 : decode cX11_mutant 73 = .ok (.istore 5, 2) := by decide +kernel
theorem dX11_mutant_75 : decode cX11_mutant 75 = .ok (.iload_n 3, 1) := by decide +kernel
theorem dX11_mutant_76 : decode cX11_mutant 76 = .ok (.ifCond .ne 8, 3) := by decide +kernel
theorem dX11_mutant_79 : decode cX11_mutant 79 = .ok (.iload 5, 2) := by decide +kernel
theorem dX11_mutant_81 : decode cX11_mutant 81 = .ok (.goto 15, 3) := by decide +kernel
theorem dX11_mutant_84 : decode cX11_mutant 84 = .ok (.getstatic 290, 3) := by decide +kernel
theorem dX11_mutant_87 : decode cX11_mutant 87 = .ok (.aload 4, 2) := by decide +kernel
theorem dX11_mutant_89 : decode cX11_mutant 89 = .ok (.getfield 177, 3) := by decide +kernel
theorem dX11_mutant_92 : decode cX11_mutant 92 = .ok (.iload 5, 2) := by decide +kernel
theorem dX11_mutant_94 : decode cX11_mutant 94 = .ok (.iaload, 1) := by decide +kernel
theorem dX11_mutant_95 : decode cX11_mutant 95 = .ok (.iaload, 1) := by decide +kernel
theorem dX11_mutant_96 : decode cX11_mutant 96 = .ok (.ireturn, 1) := by decide +kernel
theorem dX11_kill_0 : decode cX11_kill 0 = .ok (.aload_n 0, 1) := by decide +kernel
theorem dX11_kill_1 : decode cX11_kill 1 = .ok (.iload_n 1, 1) := by decide +kernel
theorem dX11_kill_2 : decode cX11_kill 2 = .ok (.invokevirtual 109, 3) := by decide +kernel
theorem dX11_kill_5 : decode cX11_kill 5 = .ok (.astore_n 2, 1) := by decide +kernel
theorem dX11_kill_6 : decode cX11_kill 6 = .ok (.aload_n 2, 1) := by decide +kernel
theorem dX11_kill_7 : decode cX11_kill 7 = .ok (.ifnonnull 5, 3) := by decide +kernel
theorem dX11_kill_10 : decode cX11_kill 10 = .ok (.iconst (-1), 1) := by decide +kernel
theorem dX11_kill_11 : decode cX11_kill 11 = .ok (.ireturn, 1) := by decide +kernel
theorem dX11_kill_12 : decode cX11_kill 12 = .ok (.aload_n 0, 1) := by decide +kernel
theorem dX11_kill_13 : decode cX11_kill 13 = .ok (.getfield 26, 3) := by decide +kernel
theorem dX11_kill_16 : decode cX11_kill 16 = .ok (.aload_n 2, 1) := by decide +kernel
theorem dX11_kill_17 : decode cX11_kill 17 = .ok (.ldc_w 293, 3) := by decide +kernel
theorem dX11_kill_20 : decode cX11_kill 20 = .ok (.invokevirtual 193, 3) := by decide +kernel
theorem dX11_kill_23 : decode cX11_kill 23 = .ok (.aload_n 0, 1) := by decide +kernel
theorem dX11_kill_24 : decode cX11_kill 24 = .ok (.aload_n 2, 1) := by decide +kernel
theorem dX11_kill_25 : decode cX11_kill 25 = .ok (.aload_n 2, 1) := by decide +kernel
theorem dX11_kill_26 : decode cX11_kill 26 = .ok (.getfield 189, 3) := by decide +kernel
theorem dX11_kill_29 : decode cX11_kill 29 = .ok (.aload_n 2, 1) := by decide +kernel
theorem dX11_kill_30 : decode cX11_kill 30 = .ok (.getfield 189, 3) := by decide +kernel
theorem dX11_kill_33 : decode cX11_kill 33 = .ok (.arraylength, 1) := by decide +kernel
theorem dX11_kill_34 : decode cX11_kill 34 = .ok (.bipush (-2), 2) := by decide +kernel
theorem dX11_kill_36 : decode cX11_kill 36 = .ok (.aload_n 0, 1) := by decide +kernel
theorem dX11_kill_37 : decode cX11_kill 37 = .ok (.getfield 69, 3) := by decide +kernel
theorem dX11_kill_40 : decode cX11_kill 40 = .ok (.invokevirtual 206, 3) := by decide +kernel
theorem dX11_kill_43 : decode cX11_kill 43 = .ok (.iconst 0, 1) := by decide +kernel
theorem dX11_kill_44 : decode cX11_kill 44 = .ok (.istore_n 3, 1) := by decide +kernel
theorem dX11_kill_45 : decode cX11_kill 45 = .ok (.iload_n 3, 1) := by decide +kernel
theorem dX11_kill_46 : decode cX11_kill 46 = .ok (.aload_n 2, 1) := by decide +kernel
theorem dX11_kill_47 : decode cX11_kill 47 = .ok (.getfield 127, 3) := by decide +kernel
theorem dX11_kill_50 : decode cX11_kill 50 = .ok (.arraylength, 1) := by decide +kernel
theorem dX11_kill_51 : decode cX11_kill 51 = .ok (.if_icmp .ge 67, 3) := by decide +kernel
theorem dX11_kill_54 : decode cX11_kill 54 = .ok (.aload_n 0, 1) := by decide +kernel
theorem dX11_kill_55 : decode cX11_kill 55 = .ok (.getfield 26, 3) := by decide +kernel
theorem dX11_kill_58 : decode cX11_kill 58 = .ok (.invokevirtual 294, 3) := by decide +kernel
theorem dX11_kill_61 : decode cX11_kill 61 = .ok (.ifCond .ne 57, 3) := by decide +kernel
theorem dX11_kill_64 : decode cX11_kill 64 = .ok (.aload_n 0, 1) := by decide +kernel
theorem dX11_kill_65 : decode cX11_kill 65 = .ok (.getfield 26, 3) := by decide +kernel
theorem dX11_kill_68 : decode cX11_kill 68 = .ok (.aload_n 2, 1) := by decide +kernel
theorem dX11_kill_69 : decode cX11_kill 69 = .ok (.getfield 127, 3) := by decide +kernel
theorem dX11_kill_72 : decode cX11_kill 72 = .ok (.iload_n 3, 1) := by decide +kernel
theorem dX11_kill_73 : decode cX11_kill 73 = .ok (.iaload, 1) := by decide +kernel
theorem dX11_kill_74 : decode cX11_kill 74 = .ok (.putfield 298, 3) := by decide +kernel
theorem dX11_kill_77 : decode cX11_kill 77 = .ok (.aload_n 0, 1) := by decide +kernel
theorem dX11_kill_78 : decode cX11_kill 78 = .ok (.aload_n 2, 1) := by decide +kernel
theorem dX11_kill_79 : decode cX11_kill 79 = .ok (.aload_n 2, 1) := by decide +kernel
theorem dX11_kill_80 : decode cX11_kill 80 = .ok (.getfield 189, 3) := by decide +kernel
theorem dX11_kill_83 : decode cX11_kill 83 = .ok (.aload_n 2, 1) := by decide +kernel
theorem dX11_kill_84 : decode cX11_kill 84 = .ok (.getfield 189, 3) := by decide +kernel
theorem dX11_kill_87 : decode cX11_kill 87 = .ok (.arraylength, 1) := by decide +kernel
theorem dX11_kill_88 : decode cX11_kill 88 = .ok (.bipush (-2), 2) := by decide +kernel
theorem dX11_kill_90 : decode cX11_kill 90 = .ok (.aload_n 0, 1) := by decide +kernel
theorem dX11_kill_91 : decode cX11_kill 91 = .ok (.getfield 72, 3) := by decide +kernel
theorem dX11_kill_94 : decode cX11_kill 94 = .ok (.invokevirtual 206, 3) := by decide +kernel
theorem dX11_kill_97 : decode cX11_kill 97 = .ok (.aload_n 2, 1) := by decide +kernel
theorem dX11_kill_98 : decode cX11_kill 98 = .ok (.getfield 301, 3) := by decide +kernel
theorem dX11_kill_101 : decode cX11_kill 101 = .ok (.iload_n 3, 1) := by decide +kernel
theorem dX11_kill_102 : decode cX11_kill 102 = .ok (.aload_n 0, 1) := by decide +kernel
theorem dX11_kill_103 : decode cX11_kill 103 = .ok (.aload_n 2, 1) := by decide +kernel
theorem dX11_kill_104 : decode cX11_kill 104 = .ok (.getfield 189, 3) := by decide +kernel
theorem dX11_kill_107 : decode cX11_kill 107 = .ok (.arraylength, 1) := by decide +kernel
theorem dX11_kill_108 : decode cX11_kill 108 = .ok (.invokevirtual 304, 3) := by decide +kernel
theorem dX11_kill_111 : decode cX11_kill 111 = .ok (.iastore, 1) := by decide +kernel
theorem dX11_kill_112 : decode cX11_kill 112 = .ok (.iinc 3 1, 3) := by decide +kernel
theorem dX11_kill_115 : decode cX11_kill 115 = .ok (.goto (-70), 3) := by decide +kernel
theorem dX11_kill_118 : decode cX11_kill 118 = .ok (.aload_n 0, 1) := by decide +kernel
theorem dX11_kill_119 : decode cX11_kill 119 = .ok (.getfield 26, 3) := by decide +kernel
theorem dX11_kill_122 : decode cX11_kill 122 = .ok (.invokevirtual 294, 3) := by decide +kernel
theorem dX11_kill_125 : decode cX11_kill 125 = .ok (.ifCond .eq 6, 3) := by decide +kernel
theorem dX11_kill_128 : decode cX11_kill 128 = .ok (.bipush (-4), 2) := by decide +kernel
theorem dX11_kill_130 : decode cX11_kill 130 = .ok (.ireturn, 1) := by decide +kernel
theorem dX11_kill_131 : decode cX11_kill 131 = .ok (.aload_n 2, 1) := by decide +kernel
theorem dX11_kill_132 : decode cX11_kill 132 = .ok (.invokevirtual 307, 3) := by decide +kernel
theorem dX11_kill_135 : decode cX11_kill 135 = .ok (.ireturn, 1) := by decide +kernel
theorem dX11_killed_0 : decode cX11_killed 0 = .ok (.aload_n 0, 1) := by decide +kernel
theorem dX11_killed_1 : decode cX11_killed 1 = .ok (.iload_n 1, 1) := by decide +kernel
theorem dX11_killed_2 : decode cX11_killed 2 = .ok (.invokevirtual 109, 3) := by decide +kernel
theorem dX11_killed_5 : decode cX11_killed 5 = .ok (.astore 4, 2) := by decide +kernel
theorem dX11_killed_7 : decode cX11_killed 7 = .ok (.aload 4, 2) := by decide +kernel
theorem dX11_killed_9 : decode cX11_killed 9 = .ok (.iload_n 3, 1) := by decide +kernel
theorem dX11_killed_10 : decode cX11_killed 10 = .ok (.invokestatic 152, 3) := by decide +kernel
theorem dX11_killed_13 : decode cX11_killed 13 = .ok (.ifnull 17, 3) := by decide +kernel
theorem dX11_killed_16 : decode cX11_killed 16 = .ok (.iload_n 2, 1) := by decide +kernel
theorem dX11_killed_17 : decode cX11_killed 17 = .ok (.ifCond .lt 13, 3) := by decide +kernel
theorem dX11_killed_20 : decode cX11_killed 20 = .ok (.iload_n 2, 1) := by decide +kernel
theorem dX11_killed_21 : decode cX11_killed 21 = .ok (.aload 4, 2) := by decide +kernel
theorem dX11_killed_23 : decode cX11_killed 23 = .ok (.getfield 127, 3) := by decide +kernel
theorem dX11_killed_26 : decode cX11_killed 26 = .ok (.arraylength, 1) := by decide +kernel
theorem dX11_killed_27 : decode cX11_killed 27 = .ok (.if_icmp .lt 5, 3) := by decide +kernel
theorem dX11_killed_30 : decode cX11_killed 30 = .ok (.iconst (-1), 1) := by decide +kernel
theorem dX11_killed_31 : decode cX11_killed 31 = .ok (.ireturn, 1) := by decide +kernel
theorem dX11_killed_32 : decode cX11_killed 32 = .ok (.aload 4, 2) := by decide +kernel
theorem dX11_killed_34 : decode cX11_killed 34 = .ok (.getfield 278, 3) := by decide +kernel
theorem dX11_killed_37 : decode cX11_killed 37 = .ok (.ifCond .eq 17, 3) := by decide +kernel
theorem dX11_killed_40 : decode cX11_killed 40 = .ok (.aload 4, 2) := by decide +kernel
theorem dX11_killed_42 : decode cX11_killed 42 = .ok (.getfield 281, 3) := by decide +kernel
theorem dX11_killed_45 : decode cX11_killed 45 = .ok (.iload_n 2, 1) := by decide +kernel
theorem dX11_killed_46 : decode cX11_killed 46 = .ok (.iaload, 1) := by decide +kernel
theorem dX11_killed_47 : decode cX11_killed 47 = .ok (.iload_n 3, 1) := by decide +kernel
theorem dX11_killed_48 : decode cX11_killed 48 = .ok (.ishr, 1) := by decide +kernel
theorem dX11_killed_49 : decode cX11_killed 49 = .ok (.iconst 1, 1) := by decide +kernel
theorem dX11_killed_50 : decode cX11_killed 50 = .ok (.iand, 1) := by decide +kernel
theorem dX11_killed_51 : decode cX11_killed 51 = .ok (.goto 5, 3) := by decide +kernel
theorem dX11_killed_54 : decode cX11_killed 54 = .ok (.bipush (-2), 2) := by decide +kernel
theorem dX11_killed_56 : decode cX11_killed 56 = .ok (.ireturn, 1) := by decide +kernel
theorem dX11_least_0 : decode cX11_least 0 = .ok (.aload_n 0, 1) := by decide +kernel
theorem dX11_least_1 : decode cX11_least 1 = .ok (.iload_n 1, 1) := by decide +kernel
theorem dX11_least_2 : decode cX11_least 2 = .ok (.invokevirtual 109, 3) := by decide +kernel
theorem dX11_least_5 : decode cX11_least 5 = .ok (.astore_n 3, 1) := by decide +kernel
theorem dX11_least_6 : decode cX11_least 6 = .ok (.aload_n 3, 1) := by decide +kernel
theorem dX11_least_7 : decode cX11_least 7 = .ok (.ifnull 8, 3) := by decide +kernel
theorem dX11_least_10 : decode cX11_least 10 = .ok (.iload_n 2, 1) := by decide +kernel
theorem dX11_least_11 : decode cX11_least 11 = .ok (.iconst (-1), 1) := by decide +kernel
theorem dX11_least_12 : decode cX11_least 12 = .ok (.if_icmp .ge 5, 3) := by decide +kernel
theorem dX11_least_15 : decode cX11_least 15 = .ok (.iconst (-1), 1) := by decide +kernel
theorem dX11_least_16 : decode cX11_least 16 = .ok (.ireturn, 1) := by decide +kernel
theorem dX11_least_17 : decode cX11_least 17 = .ok (.aload_n 3, 1) := by decide +kernel
theorem dX11_least_18 : decode cX11_least 18 = .ok (.getfield 278, 3) := by decide +kernel
theorem dX11_least_21 : decode cX11_least 21 = .ok (.ifCond .ne 6, 3) := by decide +kernel
theorem dX11_least_24 : decode cX11_least 24 = .ok (.bipush (-2), 2) := by decide +kernel
theorem dX11_least_26 : decode cX11_least 26 = .ok (.ireturn, 1) := by decide +kernel
theorem dX11_least_27 : decode cX11_least 27 = .ok (.aload_n 3, 1) := by decide +kernel
theorem dX11_least_28 : decode cX11_least 28 = .ok (.invokevirtual 310, 3) := by decide +kernel
theorem dX11_least_31 : decode cX11_least 31 = .ok (.istore 4, 2) := by decide +kernel
theorem dX11_least_33 : decode cX11_least 33 = .ok (.iload_n 2, 1) := by decide +kernel
theorem dX11_least_34 : decode cX11_least 34 = .ok (.iconst (-1), 1) := by decide +kernel
theorem dX11_least_35 : decode cX11_least 35 = .ok (.if_icmp .ne 11, 3) := by decide +kernel
theorem dX11_least_38 : decode cX11_least 38 = .ok (.iload 4, 2) := by decide +kernel
theorem dX11_least_40 : decode cX11_least 40 = .ok (.invokestatic 284, 3) := by decide +kernel
theorem dX11_least_43 : decode cX11_least 43 = .ok (.goto 9, 3) := by decide +kernel
theorem dX11_least_46 : decode cX11_least 46 = .ok (.iload 4, 2) := by decide +kernel
theorem dX11_least_48 : decode cX11_least 48 = .ok (.iload_n 2, 1) := by decide +kernel
theorem dX11_least_49 : decode cX11_least 49 = .ok (.invokestatic 313, 3) := by decide +kernel
theorem dX11_least_52 : decode cX11_least 52 = .ok (.ireturn, 1) := by decide +kernel
theorem dX11_property_0 : decode cX11_property 0 = .ok (.aload_n 0, 1) := by decide +kernel
theorem dX11_property_1 : decode cX11_property 1 = .ok (.iload_n 1, 1) := by decide +kernel
theorem dX11_property_2 : decode cX11_property 2 = .ok (.invokevirtual 109, 3) := by decide +kernel
theorem dX11_property_5 : decode cX11_property 5 = .ok (.astore 4, 2) := by decide +kernel
theorem dX11_property_7 : decode cX11_property 7 = .ok (.aload 4, 2) := by decide +kernel
theorem dX11_property_9 : decode cX11_property 9 = .ok (.ifnonnull 7, 3) := by decide +kernel
theorem dX11_property_12 : decode cX11_property 12 = .ok (.aconst_null, 1) := by decide +kernel
theorem dX11_property_13 : decode cX11_property 13 = .ok (.goto 12, 3) := by decide +kernel
theorem dX11_property_16 : decode cX11_property 16 = .ok (.aload 4, 2) := by decide +kernel
theorem dX11_property_18 : decode cX11_property 18 = .ok (.getfield 124, 3) := by decide +kernel
theorem dX11_property_21 : decode cX11_property 21 = .ok (.iload_n 2, 1) := by decide +kernel
theorem dX11_property_22 : decode cX11_property 22 = .ok (.invokestatic 130, 3) := by decide +kernel
theorem dX11_property_25 : decode cX11_property 25 = .ok (.astore 5, 2) := by decide +kernel
theorem dX11_property_27 : decode cX11_property 27 = .ok (.aload 5, 2) := by decide +kernel
theorem dX11_property_29 : decode cX11_property 29 = .ok (.ifnull 15, 3) := by decide +kernel
theorem dX11_property_32 : decode cX11_property 32 = .ok (.iload_n 3, 1) := by decide +kernel
theorem dX11_property_33 : decode cX11_property 33 = .ok (.iconst 1, 1) := by decide +kernel
theorem dX11_property_34 : decode cX11_property 34 = .ok (.if_icmp .lt 10, 3) := by decide +kernel
theorem dX11_property_37 : decode cX11_property 37 = .ok (.iload_n 3, 1) := by decide +kernel
theorem dX11_property_38 : decode cX11_property 38 = .ok (.sipush 200, 3) := by decide +kernel
theorem dX11_property_41 : decode cX11_property 41 = .ok (.if_icmp .le 5, 3) := by decide +kernel
theorem dX11_property_44 : decode cX11_property 44 = .ok (.iconst (-1), 1) := by decide +kernel
theorem dX11_property_45 : decode cX11_property 45 = .ok (.ireturn, 1) := by decide +kernel
theorem dX11_property_46 : decode cX11_property 46 = .ok (.aload_n 0, 1) := by decide +kernel
theorem dX11_property_47 : decode cX11_property 47 = .ok (.getfield 26, 3) := by decide +kernel
theorem dX11_property_50 : decode cX11_property 50 = .ok (.aload 4, 2) := by decide +kernel
theorem dX11_property_52 : decode cX11_property 52 = .ok (.sipush 20000, 3) := by decide +kernel
theorem dX11_property_55 : decode cX11_property 55 = .ok (.invokevirtual 193, 3) := by decide +kernel
theorem dX11_property_58 : decode cX11_property 58 = .ok (.aload_n 0, 1) := by decide +kernel
theorem dX11_property_59 : decode cX11_property 59 = .ok (.aload 5, 2) := by decide +kernel
theorem dX11_property_61 : decode cX11_property 61 = .ok (.iload_n 3, 1) := by decide +kernel
theorem dX11_property_62 : decode cX11_property 62 = .ok (.invokevirtual 317, 3) := by decide +kernel
theorem dX11_property_65 : decode cX11_property 65 = .ok (.istore 6, 2) := by decide +kernel
theorem dX11_property_67 : decode cX11_property 67 = .ok (.iload 6, 2) := by decide +kernel
theorem dX11_property_69 : decode cX11_property 69 = .ok (.ifCond .ne 7, 3) := by decide +kernel
theorem dX11_property_72 : decode cX11_property 72 = .ok (.iconst 1, 1) := by decide +kernel
theorem dX11_property_73 : decode cX11_property 73 = .ok (.goto 4, 3) := by decide +kernel
theorem dX11_property_76 : decode cX11_property 76 = .ok (.iconst 0, 1) := by decide +kernel
theorem dX11_property_77 : decode cX11_property 77 = .ok (.istore 7, 2) := by decide +kernel
theorem dX11_property_79 : decode cX11_property 79 = .ok (.iconst 0, 1) := by decide +kernel
theorem dX11_property_80 : decode cX11_property 80 = .ok (.istore 8, 2) := by decide +kernel
theorem dX11_property_82 : decode cX11_property 82 = .ok (.iload 8, 2) := by decide +kernel
theorem dX11_property_84 : decode cX11_property 84 = .ok (.ldc_w 321, 3) := by decide +kernel
theorem dX11_property_87 : decode cX11_property 87 = .ok (.if_icmp .ge 32, 3) := by decide +kernel
theorem dX11_property_90 : decode cX11_property 90 = .ok (.iload 7, 2) := by decide +kernel
theorem dX11_property_92 : decode cX11_property 92 = .ok (.ifCond .eq 27, 3) := by decide +kernel
theorem dX11_property_95 : decode cX11_property 95 = .ok (.aload_n 0, 1) := by decide +kernel
theorem dX11_property_96 : decode cX11_property 96 = .ok (.getfield 26, 3) := by decide +kernel
theorem dX11_property_99 : decode cX11_property 99 = .ok (.invokevirtual 294, 3) := by decide +kernel
theorem dX11_property_102 : decode cX11_property 102 = .ok (.ifCond .ne 17, 3) := by decide +kernel
theorem dX11_property_105 : decode cX11_property 105 = .ok (.aload_n 0, 1) := by decide +kernel
theorem dX11_property_106 : decode cX11_property 106 = .ok (.aload 5, 2) := by decide +kernel
theorem dX11_property_108 : decode cX11_property 108 = .ok (.invokevirtual 322, 3) := by decide +kernel
theorem dX11_property_111 : decode cX11_property 111 = .ok (.istore 7, 2) := by decide +kernel
theorem dX11_property_113 : decode cX11_property 113 = .ok (.iinc 8 1, 3) := by decide +kernel
theorem dX11_property_116 : decode cX11_property 116 = .ok (.goto (-34), 3) := by decide +kernel
theorem dX11_property_119 : decode cX11_property 119 = .ok (.aload_n 0, 1) := by decide +kernel
theorem dX11_property_120 : decode cX11_property 120 = .ok (.getfield 26, 3) := by decide +kernel
theorem dX11_property_123 : decode cX11_property 123 = .ok (.invokevirtual 294, 3) := by decide +kernel
theorem dX11_property_126 : decode cX11_property 126 = .ok (.ifCond .eq 6, 3) := by decide +kernel
theorem dX11_property_129 : decode cX11_property 129 = .ok (.bipush (-4), 2) := by decide +kernel
theorem dX11_property_131 : decode cX11_property 131 = .ok (.ireturn, 1) := by decide +kernel
theorem dX11_property_132 : decode cX11_property 132 = .ok (.aload_n 0, 1) := by decide +kernel
theorem dX11_property_133 : decode cX11_property 133 = .ok (.getfield 50, 3) := by decide +kernel
theorem dX11_property_136 : decode cX11_property 136 = .ok (.iconst 0, 1) := by decide +kernel
theorem dX11_property_137 : decode cX11_property 137 = .ok (.aload_n 0, 1) := by decide +kernel
theorem dX11_property_138 : decode cX11_property 138 = .ok (.getfield 54, 3) := by decide +kernel
theorem dX11_property_141 : decode cX11_property 141 = .ok (.iconst 0, 1) := by decide +kernel
theorem dX11_property_142 : decode cX11_property 142 = .ok (.bipush 6, 2) := by decide +kernel
theorem dX11_property_144 : decode cX11_property 144 = .ok (.invokestatic 326, 3) := by decide +kernel
theorem dX11_property_147 : decode cX11_property 147 = .ok (.aload_n 0, 1) := by decide +kernel
theorem dX11_property_148 : decode cX11_property 148 = .ok (.iload 6, 2) := by decide +kernel
theorem dX11_property_150 : decode cX11_property 150 = .ok (.ifCond .eq 7, 3) := by decide +kernel
theorem dX11_property_153 : decode cX11_property 153 = .ok (.iconst 0, 1) := by decide +kernel
theorem dX11_property_154 : decode cX11_property 154 = .ok (.goto 8, 3) := by decide +kernel
theorem dX11_property_157 : decode cX11_property 157 = .ok (.aload 5, 2) := by decide +kernel
theorem dX11_property_159 : decode cX11_property 159 = .ok (.getfield 146, 3) := by decide +kernel
theorem dX11_property_162 : decode cX11_property 162 = .ok (.putfield 57, 3) := by decide +kernel
theorem dX11_property_165 : decode cX11_property 165 = .ok (.iload 6, 2) := by decide +kernel
theorem dX11_property_167 : decode cX11_property 167 = .ok (.ifCond .eq 7, 3) := by decide +kernel
theorem dX11_property_170 : decode cX11_property 170 = .ok (.iconst 1, 1) := by decide +kernel
theorem dX11_property_171 : decode cX11_property 171 = .ok (.goto 4, 3) := by decide +kernel
theorem dX11_property_174 : decode cX11_property 174 = .ok (.iconst 0, 1) := by decide +kernel
theorem dX11_property_175 : decode cX11_property 175 = .ok (.ireturn, 1) := by decide +kernel
theorem dX11_small_0 : decode cX11_small 0 = .ok (.aload_n 0, 1) := by decide +kernel
theorem dX11_small_1 : decode cX11_small 1 = .ok (.getfield 57, 3) := by decide +kernel
theorem dX11_small_4 : decode cX11_small 4 = .ok (.bipush (-2), 2) := by decide +kernel
theorem dX11_small_6 : decode cX11_small 6 = .ok (.if_icmp .eq 17, 3) := by decide +kernel
theorem dX11_small_9 : decode cX11_small 9 = .ok (.iload_n 1, 1) := by decide +kernel
theorem dX11_small_10 : decode cX11_small 10 = .ok (.bipush (-2), 2) := by decide +kernel
theorem dX11_small_12 : decode cX11_small 12 = .ok (.if_icmp .lt 11, 3) := by decide +kernel
theorem dX11_small_15 : decode cX11_small 15 = .ok (.iload_n 1, 1) := by decide +kernel
theorem dX11_small_16 : decode cX11_small 16 = .ok (.aload_n 0, 1) := by decide +kernel
theorem dX11_small_17 : decode cX11_small 17 = .ok (.getfield 57, 3) := by decide +kernel
theorem dX11_small_20 : decode cX11_small 20 = .ok (.if_icmp .lt 5, 3) := by decide +kernel
theorem dX11_small_23 : decode cX11_small 23 = .ok (.iconst (-1), 1) := by decide +kernel
theorem dX11_small_24 : decode cX11_small 24 = .ok (.ireturn, 1) := by decide +kernel
theorem dX11_small_25 : decode cX11_small 25 = .ok (.iload_n 1, 1) := by decide +kernel
theorem dX11_small_26 : decode cX11_small 26 = .ok (.bipush (-2), 2) := by decide +kernel
theorem dX11_small_28 : decode cX11_small 28 = .ok (.if_icmp .ne 12, 3) := by decide +kernel
theorem dX11_small_31 : decode cX11_small 31 = .ok (.aload_n 0, 1) := by decide +kernel
theorem dX11_small_32 : decode cX11_small 32 = .ok (.getfield 54, 3) := by decide +kernel
theorem dX11_small_35 : decode cX11_small 35 = .ok (.iconst 5, 1) := by decide +kernel
theorem dX11_small_36 : decode cX11_small 36 = .ok (.iaload, 1) := by decide +kernel
theorem dX11_small_37 : decode cX11_small 37 = .ok (.goto 23, 3) := by decide +kernel
theorem dX11_small_40 : decode cX11_small 40 = .ok (.iload_n 1, 1) := by decide +kernel
theorem dX11_small_41 : decode cX11_small 41 = .ok (.iconst (-1), 1) := by decide +kernel
theorem dX11_small_42 : decode cX11_small 42 = .ok (.if_icmp .ne 12, 3) := by decide +kernel
theorem dX11_small_45 : decode cX11_small 45 = .ok (.aload_n 0, 1) := by decide +kernel
theorem dX11_small_46 : decode cX11_small 46 = .ok (.getfield 54, 3) := by decide +kernel
theorem dX11_small_49 : decode cX11_small 49 = .ok (.iconst 4, 1) := by decide +kernel
theorem dX11_small_50 : decode cX11_small 50 = .ok (.iaload, 1) := by decide +kernel
theorem dX11_small_51 : decode cX11_small 51 = .ok (.goto 9, 3) := by decide +kernel
theorem dX11_small_54 : decode cX11_small 54 = .ok (.aload_n 0, 1) := by decide +kernel
theorem dX11_small_55 : decode cX11_small 55 = .ok (.getfield 54, 3) := by decide +kernel
theorem dX11_small_58 : decode cX11_small 58 = .ok (.iload_n 1, 1) := by decide +kernel
theorem dX11_small_59 : decode cX11_small 59 = .ok (.iaload, 1) := by decide +kernel
theorem dX11_small_60 : decode cX11_small 60 = .ok (.ireturn, 1) := by decide +kernel
theorem dX11_smaller_0 : decode cX11_smaller 0 = .ok (.iload_n 2, 1) := by decide +kernel
theorem dX11_smaller_1 : decode cX11_smaller 1 = .ok (.ifCond .lt 11, 3) := by decide +kernel
theorem dX11_smaller_4 : decode cX11_smaller 4 = .ok (.iload_n 2, 1) := by decide +kernel
theorem dX11_smaller_5 : decode cX11_smaller 5 = .ok (.iload_n 1, 1) := by decide +kernel
theorem dX11_smaller_6 : decode cX11_smaller 6 = .ok (.invokestatic 332, 3) := by decide +kernel
theorem dX11_smaller_9 : decode cX11_smaller 9 = .ok (.if_icmp .lt 8, 3) := by decide +kernel
theorem dX11_smaller_12 : decode cX11_smaller 12 = .ok (.bipush (-2), 2) := by decide +kernel
theorem dX11_smaller_14 : decode cX11_smaller 14 = .ok (.goto 8, 3) := by decide +kernel
theorem dX11_smaller_17 : decode cX11_smaller 17 = .ok (.iload_n 1, 1) := by decide +kernel
theorem dX11_smaller_18 : decode cX11_smaller 18 = .ok (.iload_n 2, 1) := by decide +kernel
theorem dX11_smaller_19 : decode cX11_smaller 19 = .ok (.invokestatic 335, 3) := by decide +kernel
theorem dX11_smaller_22 : decode cX11_smaller 22 = .ok (.ireturn, 1) := by decide +kernel
theorem dX11_history_0 : decode cX11_history 0 = .ok (.iload_n 1, 1) := by decide +kernel
theorem dX11_history_1 : decode cX11_history 1 = .ok (.ifCond .lt 8, 3) := by decide +kernel
theorem dX11_history_4 : decode cX11_history 4 = .ok (.iload_n 1, 1) := by decide +kernel
theorem dX11_history_5 : decode cX11_history 5 = .ok (.iconst 2, 1) := by decide +kernel
theorem dX11_history_6 : decode cX11_history 6 = .ok (.if_icmp .le 5, 3) := by decide +kernel
theorem dX11_history_9 : decode cX11_history 9 = .ok (.iconst (-1), 1) := by decide +kernel
theorem dX11_history_10 : decode cX11_history 10 = .ok (.ireturn, 1) := by decide +kernel
theorem dX11_history_11 : decode cX11_history 11 = .ok (.aload_n 0, 1) := by decide +kernel
theorem dX11_history_12 : decode cX11_history 12 = .ok (.getfield 33, 3) := by decide +kernel
theorem dX11_history_15 : decode cX11_history 15 = .ok (.invokevirtual 88, 3) := by decide +kernel
theorem dX11_history_18 : decode cX11_history 18 = .ok (.bipush 8, 2) := by decide +kernel
theorem dX11_history_20 : decode cX11_history 20 = .ok (.if_icmp .lt 6, 3) := by decide +kernel
theorem dX11_history_23 : decode cX11_history 23 = .ok (.bipush (-3), 2) := by decide +kernel
theorem dX11_history_25 : decode cX11_history 25 = .ok (.ireturn, 1) := by decide +kernel
theorem dX11_history_26 : decode cX11_history 26 = .ok (.aload_n 0, 1) := by decide +kernel
theorem dX11_history_27 : decode cX11_history 27 = .ok (.getfield 33, 3) := by decide +kernel
theorem dX11_history_30 : decode cX11_history 30 = .ok (.new 338, 3) := by decide +kernel
theorem dX11_history_33 : decode cX11_history 33 = .ok (.dup, 1) := by decide +kernel
theorem dX11_history_34 : decode cX11_history 34 = .ok (.iload_n 1, 1) := by decide +kernel
theorem dX11_history_35 : decode cX11_history 35 = .ok (.invokespecial 340, 3) := by decide +kernel
theorem dX11_history_38 : decode cX11_history 38 = .ok (.invokevirtual 106, 3) := by decide +kernel
theorem dX11_history_41 : decode cX11_history 41 = .ok (.pop, 1) := by decide +kernel
theorem dX11_history_42 : decode cX11_history 42 = .ok (.aload_n 0, 1) := by decide +kernel
theorem dX11_history_43 : decode cX11_history 43 = .ok (.getfield 33, 3) := by decide +kernel
theorem dX11_history_46 : decode cX11_history 46 = .ok (.invokevirtual 88, 3) := by decide +kernel
theorem dX11_history_49 : decode cX11_history 49 = .ok (.iconst 1, 1) := by decide +kernel
theorem dX11_history_50 : decode cX11_history 50 = .ok (.isub, 1) := by decide +kernel
theorem dX11_history_51 : decode cX11_history 51 = .ok (.ireturn, 1) := by decide +kernel
theorem dX11_op_0 : decode cX11_op 0 = .ok (.aload_n 0, 1) := by decide +kernel
theorem dX11_op_1 : decode cX11_op 1 = .ok (.iload_n 1, 1) := by decide +kernel
theorem dX11_op_2 : decode cX11_op 2 = .ok (.invokevirtual 342, 3) := by decide +kernel
theorem dX11_op_5 : decode cX11_op 5 = .ok (.astore 7, 2) := by decide +kernel
theorem dX11_op_7 : decode cX11_op 7 = .ok (.aload 7, 2) := by decide +kernel
theorem dX11_op_9 : decode cX11_op 9 = .ok (.ifnull 32, 3) := by decide +kernel
theorem dX11_op_12 : decode cX11_op 12 = .ok (.iload_n 2, 1) := by decide +kernel
theorem dX11_op_13 : decode cX11_op 13 = .ok (.ifCond .lt 28, 3) := by decide +kernel
theorem dX11_op_16 : decode cX11_op 16 = .ok (.iload_n 2, 1) := by decide +kernel
theorem dX11_op_17 : decode cX11_op 17 = .ok (.iconst 1, 1) := by decide +kernel
theorem dX11_op_18 : decode cX11_op 18 = .ok (.if_icmp .gt 23, 3) := by decide +kernel
theorem dX11_op_21 : decode cX11_op 21 = .ok (.iload 5, 2) := by decide +kernel
theorem dX11_op_23 : decode cX11_op 23 = .ok (.ifCond .lt 18, 3) := by decide +kernel
theorem dX11_op_26 : decode cX11_op 26 = .ok (.iload 6, 2) := by decide +kernel
theorem dX11_op_28 : decode cX11_op 28 = .ok (.sipush 1000, 3) := by decide +kernel
theorem dX11_op_31 : decode cX11_op 31 = .ok (.if_icmp .gt 10, 3) := by decide +kernel
theorem dX11_op_34 : decode cX11_op 34 = .ok (.iload 5, 2) := by decide +kernel
theorem dX11_op_36 : decode cX11_op 36 = .ok (.iload 6, 2) := by decide +kernel
theorem dX11_op_38 : decode cX11_op 38 = .ok (.if_icmp .le 5, 3) := by decide +kernel
theorem dX11_op_41 : decode cX11_op 41 = .ok (.iconst (-1), 1) := by decide +kernel
theorem dX11_op_42 : decode cX11_op 42 = .ok (.ireturn, 1) := by decide +kernel
theorem dX11_op_43 : decode cX11_op 43 = .ok (.aload 7, 2) := by decide +kernel
theorem dX11_op_45 : decode cX11_op 45 = .ok (.getfield 346, 3) := by decide +kernel
theorem dX11_op_48 : decode cX11_op 48 = .ok (.bipush 8, 2) := by decide +kernel
theorem dX11_op_50 : decode cX11_op 50 = .ok (.if_icmp .lt 8, 3) := by decide +kernel
theorem dX11_op_53 : decode cX11_op 53 = .ok (.bipush (-3), 2) := by decide +kernel
theorem dX11_op_55 : decode cX11_op 55 = .ok (.goto 16, 3) := by decide +kernel
theorem dX11_op_58 : decode cX11_op 58 = .ok (.aload 7, 2) := by decide +kernel
theorem dX11_op_60 : decode cX11_op 60 = .ok (.iload_n 2, 1) := by decide +kernel
theorem dX11_op_61 : decode cX11_op 61 = .ok (.iload_n 3, 1) := by decide +kernel
theorem dX11_op_62 : decode cX11_op 62 = .ok (.iload 4, 2) := by decide +kernel
theorem dX11_op_64 : decode cX11_op 64 = .ok (.iload 5, 2) := by decide +kernel
theorem dX11_op_66 : decode cX11_op 66 = .ok (.iload 6, 2) := by decide +kernel
theorem dX11_op_68 : decode cX11_op 68 = .ok (.invokevirtual 347, 3) := by decide +kernel
theorem dX11_op_71 : decode cX11_op 71 = .ok (.ireturn, 1) := by decide +kernel
theorem dX11_linear_0 : decode cX11_linear 0 = .ok (.aload_n 0, 1) := by decide +kernel
theorem dX11_linear_1 : decode cX11_linear 1 = .ok (.iload_n 1, 1) := by decide +kernel
theorem dX11_linear_2 : decode cX11_linear 2 = .ok (.invokevirtual 342, 3) := by decide +kernel
theorem dX11_linear_5 : decode cX11_linear 5 = .ok (.astore_n 2, 1) := by decide +kernel
theorem dX11_linear_6 : decode cX11_linear 6 = .ok (.aload_n 2, 1) := by decide +kernel
theorem dX11_linear_7 : decode cX11_linear 7 = .ok (.ifnonnull 5, 3) := by decide +kernel
theorem dX11_linear_10 : decode cX11_linear 10 = .ok (.iconst (-1), 1) := by decide +kernel
theorem dX11_linear_11 : decode cX11_linear 11 = .ok (.ireturn, 1) := by decide +kernel
theorem dX11_linear_12 : decode cX11_linear 12 = .ok (.aload_n 2, 1) := by decide +kernel
theorem dX11_linear_13 : decode cX11_linear 13 = .ok (.invokevirtual 350, 3) := by decide +kernel
theorem dX11_linear_16 : decode cX11_linear 16 = .ok (.ifCond .eq 7, 3) := by decide +kernel
theorem dX11_linear_19 : decode cX11_linear 19 = .ok (.iconst 1, 1) := by decide +kernel
theorem dX11_linear_20 : decode cX11_linear 20 = .ok (.goto 4, 3) := by decide +kernel
theorem dX11_linear_23 : decode cX11_linear 23 = .ok (.iconst 0, 1) := by decide +kernel
theorem dX11_linear_24 : decode cX11_linear 24 = .ok (.ireturn, 1) := by decide +kernel
theorem dX11_place_0 : decode cX11_place 0 = .ok (.aload_n 0, 1) := by decide +kernel
theorem dX11_place_1 : decode cX11_place 1 = .ok (.iload_n 1, 1) := by decide +kernel
theorem dX11_place_2 : decode cX11_place 2 = .ok (.invokevirtual 342, 3) := by decide +kernel
theorem dX11_place_5 : decode cX11_place 5 = .ok (.astore_n 3, 1) := by decide +kernel
theorem dX11_place_6 : decode cX11_place 6 = .ok (.aload_n 3, 1) := by decide +kernel
theorem dX11_place_7 : decode cX11_place 7 = .ok (.ifnull 15, 3) := by decide +kernel
theorem dX11_place_10 : decode cX11_place 10 = .ok (.iload_n 2, 1) := by decide +kernel
theorem dX11_place_11 : decode cX11_place 11 = .ok (.ifCond .lt 11, 3) := by decide +kernel
theorem dX11_place_14 : decode cX11_place 14 = .ok (.iload_n 2, 1) := by decide +kernel
theorem dX11_place_15 : decode cX11_place 15 = .ok (.aload_n 3, 1) := by decide +kernel
theorem dX11_place_16 : decode cX11_place 16 = .ok (.getfield 346, 3) := by decide +kernel
theorem dX11_place_19 : decode cX11_place 19 = .ok (.if_icmp .lt 5, 3) := by decide +kernel
theorem dX11_place_22 : decode cX11_place 22 = .ok (.iconst (-1), 1) := by decide +kernel
theorem dX11_place_23 : decode cX11_place 23 = .ok (.ireturn, 1) := by decide +kernel
theorem dX11_place_24 : decode cX11_place 24 = .ok (.aload_n 3, 1) := by decide +kernel
theorem dX11_place_25 : decode cX11_place 25 = .ok (.invokevirtual 350, 3) := by decide +kernel
theorem dX11_place_28 : decode cX11_place 28 = .ok (.ifCond .eq 12, 3) := by decide +kernel
theorem dX11_place_31 : decode cX11_place 31 = .ok (.aload_n 3, 1) := by decide +kernel
theorem dX11_place_32 : decode cX11_place 32 = .ok (.getfield 353, 3) := by decide +kernel
theorem dX11_place_35 : decode cX11_place 35 = .ok (.iload_n 2, 1) := by decide +kernel
theorem dX11_place_36 : decode cX11_place 36 = .ok (.iaload, 1) := by decide +kernel
theorem dX11_place_37 : decode cX11_place 37 = .ok (.goto 5, 3) := by decide +kernel
theorem dX11_place_40 : decode cX11_place 40 = .ok (.bipush (-2), 2) := by decide +kernel
theorem dX11_place_42 : decode cX11_place 42 = .ok (.ireturn, 1) := by decide +kernel
theorem dX11_luck_0 : decode cX11_luck 0 = .ok (.aload_n 0, 1) := by decide +kernel
theorem dX11_luck_1 : decode cX11_luck 1 = .ok (.iload_n 1, 1) := by decide +kernel
theorem dX11_luck_2 : decode cX11_luck 2 = .ok (.invokevirtual 109, 3) := by decide +kernel
theorem dX11_luck_5 : decode cX11_luck 5 = .ok (.astore_n 3, 1) := by decide +kernel
theorem dX11_luck_6 : decode cX11_luck 6 = .ok (.aload_n 3, 1) := by decide +kernel
theorem dX11_luck_7 : decode cX11_luck 7 = .ok (.iload_n 2, 1) := by decide +kernel
theorem dX11_luck_8 : decode cX11_luck 8 = .ok (.invokestatic 152, 3) := by decide +kernel
theorem dX11_luck_11 : decode cX11_luck 11 = .ok (.astore 4, 2) := by decide +kernel
theorem dX11_luck_13 : decode cX11_luck 13 = .ok (.aload 4, 2) := by decide +kernel
theorem dX11_luck_15 : decode cX11_luck 15 = .ok (.ifnonnull 5, 3) := by decide +kernel
theorem dX11_luck_18 : decode cX11_luck 18 = .ok (.iconst (-1), 1) := by decide +kernel
theorem dX11_luck_19 : decode cX11_luck 19 = .ok (.ireturn, 1) := by decide +kernel
theorem dX11_luck_20 : decode cX11_luck 20 = .ok (.aload_n 0, 1) := by decide +kernel
theorem dX11_luck_21 : decode cX11_luck 21 = .ok (.getfield 26, 3) := by decide +kernel
theorem dX11_luck_24 : decode cX11_luck 24 = .ok (.aload_n 3, 1) := by decide +kernel
theorem dX11_luck_25 : decode cX11_luck 25 = .ok (.sipush 20000, 3) := by decide +kernel
theorem dX11_luck_28 : decode cX11_luck 28 = .ok (.invokevirtual 193, 3) := by decide +kernel
theorem dX11_luck_31 : decode cX11_luck 31 = .ok (.aload_n 0, 1) := by decide +kernel
theorem dX11_luck_32 : decode cX11_luck 32 = .ok (.getfield 26, 3) := by decide +kernel
theorem dX11_luck_35 : decode cX11_luck 35 = .ok (.aload_n 0, 1) := by decide +kernel
theorem dX11_luck_36 : decode cX11_luck 36 = .ok (.getfield 46, 3) := by decide +kernel
theorem dX11_luck_39 : decode cX11_luck 39 = .ok (.putfield 356, 3) := by decide +kernel
theorem dX11_luck_42 : decode cX11_luck 42 = .ok (.aload_n 0, 1) := by decide +kernel
theorem dX11_luck_43 : decode cX11_luck 43 = .ok (.aload 4, 2) := by decide +kernel
theorem dX11_luck_45 : decode cX11_luck 45 = .ok (.invokevirtual 359, 3) := by decide +kernel
theorem dX11_luck_48 : decode cX11_luck 48 = .ok (.istore 5, 2) := by decide +kernel
theorem dX11_luck_50 : decode cX11_luck 50 = .ok (.iload 5, 2) := by decide +kernel
theorem dX11_luck_52 : decode cX11_luck 52 = .ok (.bipush (-4), 2) := by decide +kernel
theorem dX11_luck_54 : decode cX11_luck 54 = .ok (.if_icmp .ne 6, 3) := by decide +kernel
theorem dX11_luck_57 : decode cX11_luck 57 = .ok (.bipush (-4), 2) := by decide +kernel
theorem dX11_luck_59 : decode cX11_luck 59 = .ok (.ireturn, 1) := by decide +kernel
theorem dX11_luck_60 : decode cX11_luck 60 = .ok (.aload_n 0, 1) := by decide +kernel
theorem dX11_luck_61 : decode cX11_luck 61 = .ok (.getfield 46, 3) := by decide +kernel
theorem dX11_luck_64 : decode cX11_luck 64 = .ok (.getfield 362, 3) := by decide +kernel
theorem dX11_luck_67 : decode cX11_luck 67 = .ok (.ifCond .eq 6, 3) := by decide +kernel
theorem dX11_luck_70 : decode cX11_luck 70 = .ok (.bipush (-5), 2) := by decide +kernel
theorem dX11_luck_72 : decode cX11_luck 72 = .ok (.ireturn, 1) := by decide +kernel
theorem dX11_luck_73 : decode cX11_luck 73 = .ok (.aload_n 0, 1) := by decide +kernel
theorem dX11_luck_74 : decode cX11_luck 74 = .ok (.aload_n 0, 1) := by decide +kernel
theorem dX11_luck_75 : decode cX11_luck 75 = .ok (.getfield 46, 3) := by decide +kernel
theorem dX11_luck_78 : decode cX11_luck 78 = .ok (.getfield 365, 3) := by decide +kernel
theorem dX11_luck_81 : decode cX11_luck 81 = .ok (.l2i, 1) := by decide +kernel
theorem dX11_luck_82 : decode cX11_luck 82 = .ok (.putfield 368, 3) := by decide +kernel
theorem dX11_luck_85 : decode cX11_luck 85 = .ok (.aload_n 0, 1) := by decide +kernel
theorem dX11_luck_86 : decode cX11_luck 86 = .ok (.aload_n 0, 1) := by decide +kernel
theorem dX11_luck_87 : decode cX11_luck 87 = .ok (.getfield 46, 3) := by decide +kernel
theorem dX11_luck_90 : decode cX11_luck 90 = .ok (.getfield 371, 3) := by decide +kernel
theorem dX11_luck_93 : decode cX11_luck 93 = .ok (.l2i, 1) := by decide +kernel
theorem dX11_luck_94 : decode cX11_luck 94 = .ok (.putfield 374, 3) := by decide +kernel
theorem dX11_luck_97 : decode cX11_luck 97 = .ok (.iload 5, 2) := by decide +kernel
theorem dX11_luck_99 : decode cX11_luck 99 = .ok (.ireturn, 1) := by decide +kernel
theorem dX11_share_0 : decode cX11_share 0 = .ok (.aload_n 0, 1) := by decide +kernel
theorem dX11_share_1 : decode cX11_share 1 = .ok (.getfield 374, 3) := by decide +kernel
theorem dX11_share_4 : decode cX11_share 4 = .ok (.ifCond .eq 12, 3) := by decide +kernel
theorem dX11_share_7 : decode cX11_share 7 = .ok (.iload_n 1, 1) := by decide +kernel
theorem dX11_share_8 : decode cX11_share 8 = .ok (.ifCond .lt 8, 3) := by decide +kernel
theorem dX11_share_11 : decode cX11_share 11 = .ok (.iload_n 1, 1) := by decide +kernel
theorem dX11_share_12 : decode cX11_share 12 = .ok (.iconst 1, 1) := by decide +kernel
theorem dX11_share_13 : decode cX11_share 13 = .ok (.if_icmp .le 5, 3) := by decide +kernel
theorem dX11_share_16 : decode cX11_share 16 = .ok (.iconst (-1), 1) := by decide +kernel
theorem dX11_share_17 : decode cX11_share 17 = .ok (.ireturn, 1) := by decide +kernel
theorem dX11_share_18 : decode cX11_share 18 = .ok (.iload_n 1, 1) := by decide +kernel
theorem dX11_share_19 : decode cX11_share 19 = .ok (.ifCond .ne 10, 3) := by decide +kernel
theorem dX11_share_22 : decode cX11_share 22 = .ok (.aload_n 0, 1) := by decide +kernel
theorem dX11_share_23 : decode cX11_share 23 = .ok (.getfield 368, 3) := by decide +kernel
theorem dX11_share_26 : decode cX11_share 26 = .ok (.goto 7, 3) := by decide +kernel
theorem dX11_share_29 : decode cX11_share 29 = .ok (.aload_n 0, 1) := by decide +kernel
theorem dX11_share_30 : decode cX11_share 30 = .ok (.getfield 374, 3) := by decide +kernel
theorem dX11_share_33 : decode cX11_share 33 = .ok (.ireturn, 1) := by decide +kernel
theorem dX11_blame_0 : decode cX11_blame 0 = .ok (.aload_n 0, 1) := by decide +kernel
theorem dX11_blame_1 : decode cX11_blame 1 = .ok (.iload_n 1, 1) := by decide +kernel
theorem dX11_blame_2 : decode cX11_blame 2 = .ok (.invokevirtual 109, 3) := by decide +kernel
theorem dX11_blame_5 : decode cX11_blame 5 = .ok (.astore_n 3, 1) := by decide +kernel
theorem dX11_blame_6 : decode cX11_blame 6 = .ok (.aload_n 3, 1) := by decide +kernel
theorem dX11_blame_7 : decode cX11_blame 7 = .ok (.iload_n 2, 1) := by decide +kernel
theorem dX11_blame_8 : decode cX11_blame 8 = .ok (.invokestatic 152, 3) := by decide +kernel
theorem dX11_blame_11 : decode cX11_blame 11 = .ok (.astore 4, 2) := by decide +kernel
theorem dX11_blame_13 : decode cX11_blame 13 = .ok (.aload 4, 2) := by decide +kernel
theorem dX11_blame_15 : decode cX11_blame 15 = .ok (.ifnonnull 5, 3) := by decide +kernel
theorem dX11_blame_18 : decode cX11_blame 18 = .ok (.iconst (-1), 1) := by decide +kernel
theorem dX11_blame_19 : decode cX11_blame 19 = .ok (.ireturn, 1) := by decide +kernel
theorem dX11_blame_20 : decode cX11_blame 20 = .ok (.aload 4, 2) := by decide +kernel
theorem dX11_blame_22 : decode cX11_blame 22 = .ok (.getfield 159, 3) := by decide +kernel
theorem dX11_blame_25 : decode cX11_blame 25 = .ok (.ifCond .eq 6, 3) := by decide +kernel
theorem dX11_blame_28 : decode cX11_blame 28 = .ok (.bipush (-2), 2) := by decide +kernel
theorem dX11_blame_30 : decode cX11_blame 30 = .ok (.ireturn, 1) := by decide +kernel
theorem dX11_blame_31 : decode cX11_blame 31 = .ok (.aload_n 0, 1) := by decide +kernel
theorem dX11_blame_32 : decode cX11_blame 32 = .ok (.getfield 26, 3) := by decide +kernel
theorem dX11_blame_35 : decode cX11_blame 35 = .ok (.aload_n 3, 1) := by decide +kernel
theorem dX11_blame_36 : decode cX11_blame 36 = .ok (.sipush 20000, 3) := by decide +kernel
theorem dX11_blame_39 : decode cX11_blame 39 = .ok (.invokevirtual 193, 3) := by decide +kernel
theorem dX11_blame_42 : decode cX11_blame 42 = .ok (.aload_n 3, 1) := by decide +kernel
theorem dX11_blame_43 : decode cX11_blame 43 = .ok (.iload_n 2, 1) := by decide +kernel
theorem dX11_blame_44 : decode cX11_blame 44 = .ok (.invokestatic 377, 3) := by decide +kernel
theorem dX11_blame_47 : decode cX11_blame 47 = .ok (.istore 5, 2) := by decide +kernel
theorem dX11_blame_49 : decode cX11_blame 49 = .ok (.aload_n 3, 1) := by decide +kernel
theorem dX11_blame_50 : decode cX11_blame 50 = .ok (.getfield 189, 3) := by decide +kernel
theorem dX11_blame_53 : decode cX11_blame 53 = .ok (.iconst 0, 1) := by decide +kernel
theorem dX11_blame_54 : decode cX11_blame 54 = .ok (.aload_n 0, 1) := by decide +kernel
theorem dX11_blame_55 : decode cX11_blame 55 = .ok (.getfield 61, 3) := by decide +kernel
theorem dX11_blame_58 : decode cX11_blame 58 = .ok (.iconst 0, 1) := by decide +kernel
theorem dX11_blame_59 : decode cX11_blame 59 = .ok (.iload 5, 2) := by decide +kernel
theorem dX11_blame_61 : decode cX11_blame 61 = .ok (.invokestatic 326, 3) := by decide +kernel
theorem dX11_blame_64 : decode cX11_blame 64 = .ok (.aload_n 0, 1) := by decide +kernel
theorem dX11_blame_65 : decode cX11_blame 65 = .ok (.getfield 61, 3) := by decide +kernel
theorem dX11_blame_68 : decode cX11_blame 68 = .ok (.iload 5, 2) := by decide +kernel
theorem dX11_blame_70 : decode cX11_blame 70 = .ok (.iload_n 2, 1) := by decide +kernel
theorem dX11_blame_71 : decode cX11_blame 71 = .ok (.iastore, 1) := by decide +kernel
theorem dX11_blame_72 : decode cX11_blame 72 = .ok (.aload_n 0, 1) := by decide +kernel
theorem dX11_blame_73 : decode cX11_blame 73 = .ok (.aload_n 3, 1) := by decide +kernel
theorem dX11_blame_74 : decode cX11_blame 74 = .ok (.aload_n 0, 1) := by decide +kernel
theorem dX11_blame_75 : decode cX11_blame 75 = .ok (.getfield 61, 3) := by decide +kernel
theorem dX11_blame_78 : decode cX11_blame 78 = .ok (.iload 5, 2) := by decide +kernel
theorem dX11_blame_80 : decode cX11_blame 80 = .ok (.iconst 1, 1) := by decide +kernel
theorem dX11_blame_81 : decode cX11_blame 81 = .ok (.iadd, 1) := by decide +kernel
theorem dX11_blame_82 : decode cX11_blame 82 = .ok (.bipush (-2), 2) := by decide +kernel
theorem dX11_blame_84 : decode cX11_blame 84 = .ok (.aload_n 0, 1) := by decide +kernel
theorem dX11_blame_85 : decode cX11_blame 85 = .ok (.getfield 69, 3) := by decide +kernel
theorem dX11_blame_88 : decode cX11_blame 88 = .ok (.invokevirtual 206, 3) := by decide +kernel
theorem dX11_blame_91 : decode cX11_blame 91 = .ok (.aload_n 0, 1) := by decide +kernel
theorem dX11_blame_92 : decode cX11_blame 92 = .ok (.getfield 26, 3) := by decide +kernel
theorem dX11_blame_95 : decode cX11_blame 95 = .ok (.getfield 381, 3) := by decide +kernel
theorem dX11_blame_98 : decode cX11_blame 98 = .ok (.getfield 384, 3) := by decide +kernel
theorem dX11_blame_101 : decode cX11_blame 101 = .ok (.iconst 1, 1) := by decide +kernel
theorem dX11_blame_102 : decode cX11_blame 102 = .ok (.if_icmp .eq 7, 3) := by decide +kernel
theorem dX11_blame_105 : decode cX11_blame 105 = .ok (.iconst 1, 1) := by decide +kernel
theorem dX11_blame_106 : decode cX11_blame 106 = .ok (.goto 4, 3) := by decide +kernel
theorem dX11_blame_109 : decode cX11_blame 109 = .ok (.iconst 0, 1) := by decide +kernel
theorem dX11_blame_110 : decode cX11_blame 110 = .ok (.istore 6, 2) := by decide +kernel
theorem dX11_blame_112 : decode cX11_blame 112 = .ok (.iload 6, 2) := by decide +kernel
theorem dX11_blame_114 : decode cX11_blame 114 = .ok (.ifCond .eq 26, 3) := by decide +kernel
theorem dX11_blame_117 : decode cX11_blame 117 = .ok (.aload_n 0, 1) := by decide +kernel
theorem dX11_blame_118 : decode cX11_blame 118 = .ok (.getfield 26, 3) := by decide +kernel
theorem dX11_blame_121 : decode cX11_blame 121 = .ok (.invokevirtual 294, 3) := by decide +kernel
theorem dX11_blame_124 : decode cX11_blame 124 = .ok (.ifCond .ne 16, 3) := by decide +kernel
theorem dX11_blame_127 : decode cX11_blame 127 = .ok (.aload_n 0, 1) := by decide +kernel
theorem dX11_blame_128 : decode cX11_blame 128 = .ok (.aload 4, 2) := by decide +kernel
theorem dX11_blame_130 : decode cX11_blame 130 = .ok (.invokevirtual 387, 3) := by decide +kernel
theorem dX11_blame_133 : decode cX11_blame 133 = .ok (.ifCond .eq 7, 3) := by decide +kernel
theorem dX11_blame_136 : decode cX11_blame 136 = .ok (.iconst 1, 1) := by decide +kernel
theorem dX11_blame_137 : decode cX11_blame 137 = .ok (.goto 4, 3) := by decide +kernel
theorem dX11_blame_140 : decode cX11_blame 140 = .ok (.iconst 0, 1) := by decide +kernel
theorem dX11_blame_141 : decode cX11_blame 141 = .ok (.istore 7, 2) := by decide +kernel
theorem dX11_blame_143 : decode cX11_blame 143 = .ok (.aload_n 0, 1) := by decide +kernel
theorem dX11_blame_144 : decode cX11_blame 144 = .ok (.getfield 26, 3) := by decide +kernel
theorem dX11_blame_147 : decode cX11_blame 147 = .ok (.invokevirtual 294, 3) := by decide +kernel
theorem dX11_blame_150 : decode cX11_blame 150 = .ok (.ifCond .eq 6, 3) := by decide +kernel
theorem dX11_blame_153 : decode cX11_blame 153 = .ok (.bipush (-4), 2) := by decide +kernel
theorem dX11_blame_155 : decode cX11_blame 155 = .ok (.ireturn, 1) := by decide +kernel
theorem dX11_blame_156 : decode cX11_blame 156 = .ok (.iload 7, 2) := by decide +kernel
theorem dX11_blame_158 : decode cX11_blame 158 = .ok (.ifCond .ne 6, 3) := by decide +kernel
theorem dX11_blame_161 : decode cX11_blame 161 = .ok (.bipush (-2), 2) := by decide +kernel
theorem dX11_blame_163 : decode cX11_blame 163 = .ok (.ireturn, 1) := by decide +kernel
theorem dX11_blame_164 : decode cX11_blame 164 = .ok (.iconst 1, 1) := by decide +kernel
theorem dX11_blame_165 : decode cX11_blame 165 = .ok (.istore 8, 2) := by decide +kernel
theorem dX11_blame_167 : decode cX11_blame 167 = .ok (.iconst 0, 1) := by decide +kernel
theorem dX11_blame_168 : decode cX11_blame 168 = .ok (.istore 9, 2) := by decide +kernel
theorem dX11_blame_170 : decode cX11_blame 170 = .ok (.iload 9, 2) := by decide +kernel
theorem dX11_blame_172 : decode cX11_blame 172 = .ok (.bipush 16, 2) := by decide +kernel
theorem dX11_blame_174 : decode cX11_blame 174 = .ok (.if_icmp .gt 125, 3) := by decide +kernel
theorem dX11_blame_177 : decode cX11_blame 177 = .ok (.iload 8, 2) := by decide +kernel
theorem dX11_blame_179 : decode cX11_blame 179 = .ok (.ifCond .eq 120, 3) := by decide +kernel
theorem dX11_blame_182 : decode cX11_blame 182 = .ok (.iload 5, 2) := by decide +kernel
theorem dX11_blame_184 : decode cX11_blame 184 = .ok (.istore 10, 2) := by decide +kernel
theorem dX11_blame_186 : decode cX11_blame 186 = .ok (.iconst 0, 1) := by decide +kernel
theorem dX11_blame_187 : decode cX11_blame 187 = .ok (.istore 11, 2) := by decide +kernel
theorem dX11_blame_189 : decode cX11_blame 189 = .ok (.iconst 0, 1) := by decide +kernel
theorem dX11_blame_190 : decode cX11_blame 190 = .ok (.istore 12, 2) := by decide +kernel
theorem dX11_blame_192 : decode cX11_blame 192 = .ok (.iload 12, 2) := by decide +kernel
theorem dX11_blame_194 : decode cX11_blame 194 = .ok (.iload 10, 2) := by decide +kernel
theorem dX11_blame_196 : decode cX11_blame 196 = .ok (.if_icmp .ge 83, 3) := by decide +kernel
theorem dX11_blame_199 : decode cX11_blame 199 = .ok (.aload_n 0, 1) := by decide +kernel
theorem dX11_blame_200 : decode cX11_blame 200 = .ok (.getfield 26, 3) := by decide +kernel
theorem dX11_blame_203 : decode cX11_blame 203 = .ok (.invokevirtual 294, 3) := by decide +kernel
theorem dX11_blame_206 : decode cX11_blame 206 = .ok (.ifCond .ne 73, 3) := by decide +kernel
theorem dX11_blame_209 : decode cX11_blame 209 = .ok (.aload_n 0, 1) := by decide +kernel
theorem dX11_blame_210 : decode cX11_blame 210 = .ok (.aload_n 3, 1) := by decide +kernel
theorem dX11_blame_211 : decode cX11_blame 211 = .ok (.aload_n 0, 1) := by decide +kernel
theorem dX11_blame_212 : decode cX11_blame 212 = .ok (.getfield 61, 3) := by decide +kernel
theorem dX11_blame_215 : decode cX11_blame 215 = .ok (.iload 5, 2) := by decide +kernel
theorem dX11_blame_217 : decode cX11_blame 217 = .ok (.iconst 1, 1) := by decide +kernel
theorem dX11_blame_218 : decode cX11_blame 218 = .ok (.iadd, 1) := by decide +kernel
theorem dX11_blame_219 : decode cX11_blame 219 = .ok (.iload 11, 2) := by decide +kernel
theorem dX11_blame_221 : decode cX11_blame 221 = .ok (.aload_n 0, 1) := by decide +kernel
theorem dX11_blame_222 : decode cX11_blame 222 = .ok (.getfield 69, 3) := by decide +kernel
theorem dX11_blame_225 : decode cX11_blame 225 = .ok (.invokevirtual 206, 3) := by decide +kernel
theorem dX11_blame_228 : decode cX11_blame 228 = .ok (.aload_n 0, 1) := by decide +kernel
theorem dX11_blame_229 : decode cX11_blame 229 = .ok (.getfield 26, 3) := by decide +kernel
theorem dX11_blame_232 : decode cX11_blame 232 = .ok (.getfield 381, 3) := by decide +kernel
theorem dX11_blame_235 : decode cX11_blame 235 = .ok (.getfield 384, 3) := by decide +kernel
theorem dX11_blame_238 : decode cX11_blame 238 = .ok (.iconst 1, 1) := by decide +kernel
theorem dX11_blame_239 : decode cX11_blame 239 = .ok (.if_icmp .ne 9, 3) := by decide +kernel
theorem dX11_blame_242 : decode cX11_blame 242 = .ok (.iinc 11 1, 3) := by decide +kernel
theorem dX11_blame_245 : decode cX11_blame 245 = .ok (.goto 28, 3) := by decide +kernel
theorem dX11_blame_248 : decode cX11_blame 248 = .ok (.aload_n 0, 1) := by decide +kernel
theorem dX11_blame_249 : decode cX11_blame 249 = .ok (.getfield 61, 3) := by decide +kernel
theorem dX11_blame_252 : decode cX11_blame 252 = .ok (.iload 11, 2) := by decide +kernel
theorem dX11_blame_254 : decode cX11_blame 254 = .ok (.iconst 1, 1) := by decide +kernel
theorem dX11_blame_255 : decode cX11_blame 255 = .ok (.iadd, 1) := by decide +kernel
theorem dX11_blame_256 : decode cX11_blame 256 = .ok (.aload_n 0, 1) := by decide +kernel
theorem dX11_blame_257 : decode cX11_blame 257 = .ok (.getfield 61, 3) := by decide +kernel
theorem dX11_blame_260 : decode cX11_blame 260 = .ok (.iload 11, 2) := by decide +kernel
theorem dX11_blame_262 : decode cX11_blame 262 = .ok (.iload 5, 2) := by decide +kernel
theorem dX11_blame_264 : decode cX11_blame 264 = .ok (.iload 11, 2) := by decide +kernel
theorem dX11_blame_266 : decode cX11_blame 266 = .ok (.isub, 1) := by decide +kernel
theorem dX11_blame_267 : decode cX11_blame 267 = .ok (.invokestatic 326, 3) := by decide +kernel
theorem dX11_blame_270 : decode cX11_blame 270 = .ok (.iinc 5 (-1), 3) := by decide +kernel
theorem dX11_blame_273 : decode cX11_blame 273 = .ok (.iinc 12 1, 3) := by decide +kernel
theorem dX11_blame_276 : decode cX11_blame 276 = .ok (.goto (-84), 3) := by decide +kernel
theorem dX11_blame_279 : decode cX11_blame 279 = .ok (.iload 5, 2) := by decide +kernel
theorem dX11_blame_281 : decode cX11_blame 281 = .ok (.iload 10, 2) := by decide +kernel
theorem dX11_blame_283 : decode cX11_blame 283 = .ok (.if_icmp .ge 7, 3) := by decide +kernel
theorem dX11_blame_286 : decode cX11_blame 286 = .ok (.iconst 1, 1) := by decide +kernel
theorem dX11_blame_287 : decode cX11_blame 287 = .ok (.goto 4, 3) := by decide +kernel
theorem dX11_blame_290 : decode cX11_blame 290 = .ok (.iconst 0, 1) := by decide +kernel
theorem dX11_blame_291 : decode cX11_blame 291 = .ok (.istore 8, 2) := by decide +kernel
theorem dX11_blame_293 : decode cX11_blame 293 = .ok (.iinc 9 1, 3) := by decide +kernel
theorem dX11_blame_296 : decode cX11_blame 296 = .ok (.goto (-126), 3) := by decide +kernel
theorem dX11_blame_299 : decode cX11_blame 299 = .ok (.aload_n 0, 1) := by decide +kernel
theorem dX11_blame_300 : decode cX11_blame 300 = .ok (.getfield 26, 3) := by decide +kernel
theorem dX11_blame_303 : decode cX11_blame 303 = .ok (.invokevirtual 294, 3) := by decide +kernel
theorem dX11_blame_306 : decode cX11_blame 306 = .ok (.ifCond .eq 6, 3) := by decide +kernel
theorem dX11_blame_309 : decode cX11_blame 309 = .ok (.bipush (-4), 2) := by decide +kernel
theorem dX11_blame_311 : decode cX11_blame 311 = .ok (.ireturn, 1) := by decide +kernel
theorem dX11_blame_312 : decode cX11_blame 312 = .ok (.aload_n 0, 1) := by decide +kernel
theorem dX11_blame_313 : decode cX11_blame 313 = .ok (.getfield 61, 3) := by decide +kernel
theorem dX11_blame_316 : decode cX11_blame 316 = .ok (.iconst 0, 1) := by decide +kernel
theorem dX11_blame_317 : decode cX11_blame 317 = .ok (.aload_n 0, 1) := by decide +kernel
theorem dX11_blame_318 : decode cX11_blame 318 = .ok (.getfield 64, 3) := by decide +kernel
theorem dX11_blame_321 : decode cX11_blame 321 = .ok (.iconst 0, 1) := by decide +kernel
theorem dX11_blame_322 : decode cX11_blame 322 = .ok (.iload 5, 2) := by decide +kernel
theorem dX11_blame_324 : decode cX11_blame 324 = .ok (.invokestatic 326, 3) := by decide +kernel
theorem dX11_blame_327 : decode cX11_blame 327 = .ok (.aload_n 0, 1) := by decide +kernel
theorem dX11_blame_328 : decode cX11_blame 328 = .ok (.iload 5, 2) := by decide +kernel
theorem dX11_blame_330 : decode cX11_blame 330 = .ok (.putfield 390, 3) := by decide +kernel
theorem dX11_blame_333 : decode cX11_blame 333 = .ok (.iload 5, 2) := by decide +kernel
theorem dX11_blame_335 : decode cX11_blame 335 = .ok (.ireturn, 1) := by decide +kernel
theorem dX11_blamed_0 : decode cX11_blamed 0 = .ok (.iload_n 1, 1) := by decide +kernel
theorem dX11_blamed_1 : decode cX11_blamed 1 = .ok (.ifCond .lt 11, 3) := by decide +kernel
theorem dX11_blamed_4 : decode cX11_blamed 4 = .ok (.iload_n 1, 1) := by decide +kernel
theorem dX11_blamed_5 : decode cX11_blamed 5 = .ok (.aload_n 0, 1) := by decide +kernel
theorem dX11_blamed_6 : decode cX11_blamed 6 = .ok (.getfield 390, 3) := by decide +kernel
theorem dX11_blamed_9 : decode cX11_blamed 9 = .ok (.if_icmp .lt 7, 3) := by decide +kernel
theorem dX11_blamed_12 : decode cX11_blamed 12 = .ok (.iconst (-1), 1) := by decide +kernel
theorem dX11_blamed_13 : decode cX11_blamed 13 = .ok (.goto 9, 3) := by decide +kernel
theorem dX11_blamed_16 : decode cX11_blamed 16 = .ok (.aload_n 0, 1) := by decide +kernel
theorem dX11_blamed_17 : decode cX11_blamed 17 = .ok (.getfield 64, 3) := by decide +kernel
theorem dX11_blamed_20 : decode cX11_blamed 20 = .ok (.iload_n 1, 1) := by decide +kernel
theorem dX11_blamed_21 : decode cX11_blamed 21 = .ok (.iaload, 1) := by decide +kernel
theorem dX11_blamed_22 : decode cX11_blamed 22 = .ok (.ireturn, 1) := by decide +kernel
theorem dX11_build_0 : decode cX11_build 0 = .ok (.aload_n 0, 1) := by decide +kernel
theorem dX11_build_1 : decode cX11_build 1 = .ok (.iload_n 1, 1) := by decide +kernel
theorem dX11_build_2 : decode cX11_build 2 = .ok (.invokevirtual 109, 3) := by decide +kernel
theorem dX11_build_5 : decode cX11_build 5 = .ok (.astore_n 3, 1) := by decide +kernel
theorem dX11_build_6 : decode cX11_build 6 = .ok (.aload_n 0, 1) := by decide +kernel
theorem dX11_build_7 : decode cX11_build 7 = .ok (.iload_n 2, 1) := by decide +kernel
theorem dX11_build_8 : decode cX11_build 8 = .ok (.invokevirtual 109, 3) := by decide +kernel
theorem dX11_build_11 : decode cX11_build 11 = .ok (.astore 4, 2) := by decide +kernel
theorem dX11_build_13 : decode cX11_build 13 = .ok (.aload_n 3, 1) := by decide +kernel
theorem dX11_build_14 : decode cX11_build 14 = .ok (.ifnull 8, 3) := by decide +kernel
theorem dX11_build_17 : decode cX11_build 17 = .ok (.aload 4, 2) := by decide +kernel
theorem dX11_build_19 : decode cX11_build 19 = .ok (.ifnonnull 5, 3) := by decide +kernel
theorem dX11_build_22 : decode cX11_build 22 = .ok (.iconst (-1), 1) := by decide +kernel
theorem dX11_build_23 : decode cX11_build 23 = .ok (.ireturn, 1) := by decide +kernel
theorem dX11_build_24 : decode cX11_build 24 = .ok (.aload_n 0, 1) := by decide +kernel
theorem dX11_build_25 : decode cX11_build 25 = .ok (.getfield 30, 3) := by decide +kernel
theorem dX11_build_28 : decode cX11_build 28 = .ok (.invokevirtual 88, 3) := by decide +kernel
theorem dX11_build_31 : decode cX11_build 31 = .ok (.bipush 8, 2) := by decide +kernel
theorem dX11_build_33 : decode cX11_build 33 = .ok (.if_icmp .lt 6, 3) := by decide +kernel
theorem dX11_build_36 : decode cX11_build 36 = .ok (.bipush (-3), 2) := by decide +kernel
theorem dX11_build_38 : decode cX11_build 38 = .ok (.ireturn, 1) := by decide +kernel
theorem dX11_build_39 : decode cX11_build 39 = .ok (.aload_n 0, 1) := by decide +kernel
theorem dX11_build_40 : decode cX11_build 40 = .ok (.getfield 30, 3) := by decide +kernel
theorem dX11_build_43 : decode cX11_build 43 = .ok (.new 393, 3) := by decide +kernel
theorem dX11_build_46 : decode cX11_build 46 = .ok (.dup, 1) := by decide +kernel
theorem dX11_build_47 : decode cX11_build 47 = .ok (.aload_n 3, 1) := by decide +kernel
theorem dX11_build_48 : decode cX11_build 48 = .ok (.aload 4, 2) := by decide +kernel
theorem dX11_build_50 : decode cX11_build 50 = .ok (.invokespecial 395, 3) := by decide +kernel
theorem dX11_build_53 : decode cX11_build 53 = .ok (.invokevirtual 106, 3) := by decide +kernel
theorem dX11_build_56 : decode cX11_build 56 = .ok (.pop, 1) := by decide +kernel
theorem dX11_build_57 : decode cX11_build 57 = .ok (.aload_n 0, 1) := by decide +kernel
theorem dX11_build_58 : decode cX11_build 58 = .ok (.getfield 30, 3) := by decide +kernel
theorem dX11_build_61 : decode cX11_build 61 = .ok (.invokevirtual 88, 3) := by decide +kernel
theorem dX11_build_64 : decode cX11_build 64 = .ok (.iconst 1, 1) := by decide +kernel
theorem dX11_build_65 : decode cX11_build 65 = .ok (.isub, 1) := by decide +kernel
theorem dX11_build_66 : decode cX11_build 66 = .ok (.ireturn, 1) := by decide +kernel
theorem dX11_foretold_0 : decode cX11_foretold 0 = .ok (.aload_n 0, 1) := by decide +kernel
theorem dX11_foretold_1 : decode cX11_foretold 1 = .ok (.iload_n 1, 1) := by decide +kernel
theorem dX11_foretold_2 : decode cX11_foretold 2 = .ok (.invokevirtual 398, 3) := by decide +kernel
theorem dX11_foretold_5 : decode cX11_foretold 5 = .ok (.astore_n 3, 1) := by decide +kernel
theorem dX11_foretold_6 : decode cX11_foretold 6 = .ok (.aload_n 3, 1) := by decide +kernel
theorem dX11_foretold_7 : decode cX11_foretold 7 = .ok (.ifnull 18, 3) := by decide +kernel
theorem dX11_foretold_10 : decode cX11_foretold 10 = .ok (.iload_n 2, 1) := by decide +kernel
theorem dX11_foretold_11 : decode cX11_foretold 11 = .ok (.ifCond .lt 14, 3) := by decide +kernel
theorem dX11_foretold_14 : decode cX11_foretold 14 = .ok (.iload_n 2, 1) := by decide +kernel
theorem dX11_foretold_15 : decode cX11_foretold 15 = .ok (.aload_n 3, 1) := by decide +kernel
theorem dX11_foretold_16 : decode cX11_foretold 16 = .ok (.getfield 402, 3) := by decide +kernel
theorem dX11_foretold_19 : decode cX11_foretold 19 = .ok (.getfield 119, 3) := by decide +kernel
theorem dX11_foretold_22 : decode cX11_foretold 22 = .ok (.if_icmp .lt 5, 3) := by decide +kernel
theorem dX11_foretold_25 : decode cX11_foretold 25 = .ok (.iconst (-1), 1) := by decide +kernel
theorem dX11_foretold_26 : decode cX11_foretold 26 = .ok (.ireturn, 1) := by decide +kernel
theorem dX11_foretold_27 : decode cX11_foretold 27 = .ok (.aload_n 3, 1) := by decide +kernel
theorem dX11_foretold_28 : decode cX11_foretold 28 = .ok (.aload_n 3, 1) := by decide +kernel
theorem dX11_foretold_29 : decode cX11_foretold 29 = .ok (.getfield 402, 3) := by decide +kernel
theorem dX11_foretold_32 : decode cX11_foretold 32 = .ok (.iload_n 2, 1) := by decide +kernel
theorem dX11_foretold_33 : decode cX11_foretold 33 = .ok (.invokevirtual 406, 3) := by decide +kernel
theorem dX11_foretold_36 : decode cX11_foretold 36 = .ok (.invokevirtual 409, 3) := by decide +kernel
theorem dX11_foretold_39 : decode cX11_foretold 39 = .ok (.ifCond .ne 30, 3) := by decide +kernel
theorem dX11_foretold_42 : decode cX11_foretold 42 = .ok (.aload_n 3, 1) := by decide +kernel
theorem dX11_foretold_43 : decode cX11_foretold 43 = .ok (.getfield 402, 3) := by decide +kernel
theorem dX11_foretold_46 : decode cX11_foretold 46 = .ok (.getfield 177, 3) := by decide +kernel
theorem dX11_foretold_49 : decode cX11_foretold 49 = .ok (.iload_n 2, 1) := by decide +kernel
theorem dX11_foretold_50 : decode cX11_foretold 50 = .ok (.iaload, 1) := by decide +kernel
theorem dX11_foretold_51 : decode cX11_foretold 51 = .ok (.iconst 3, 1) := by decide +kernel
theorem dX11_foretold_52 : decode cX11_foretold 52 = .ok (.if_icmp .lt 17, 3) := by decide +kernel
theorem dX11_foretold_55 : decode cX11_foretold 55 = .ok (.aload_n 3, 1) := by decide +kernel
theorem dX11_foretold_56 : decode cX11_foretold 56 = .ok (.getfield 402, 3) := by decide +kernel
theorem dX11_foretold_59 : decode cX11_foretold 59 = .ok (.getfield 177, 3) := by decide +kernel
theorem dX11_foretold_62 : decode cX11_foretold 62 = .ok (.iload_n 2, 1) := by decide +kernel
theorem dX11_foretold_63 : decode cX11_foretold 63 = .ok (.iaload, 1) := by decide +kernel
theorem dX11_foretold_64 : decode cX11_foretold 64 = .ok (.bipush 7, 2) := by decide +kernel
theorem dX11_foretold_66 : decode cX11_foretold 66 = .ok (.if_icmp .le 6, 3) := by decide +kernel
theorem dX11_foretold_69 : decode cX11_foretold 69 = .ok (.bipush (-2), 2) := by decide +kernel
theorem dX11_foretold_71 : decode cX11_foretold 71 = .ok (.ireturn, 1) := by decide +kernel
theorem dX11_foretold_72 : decode cX11_foretold 72 = .ok (.aload_n 3, 1) := by decide +kernel
theorem dX11_foretold_73 : decode cX11_foretold 73 = .ok (.aload_n 3, 1) := by decide +kernel
theorem dX11_foretold_74 : decode cX11_foretold 74 = .ok (.getfield 402, 3) := by decide +kernel
theorem dX11_foretold_77 : decode cX11_foretold 77 = .ok (.getfield 180, 3) := by decide +kernel
theorem dX11_foretold_80 : decode cX11_foretold 80 = .ok (.iload_n 2, 1) := by decide +kernel
theorem dX11_foretold_81 : decode cX11_foretold 81 = .ok (.iaload, 1) := by decide +kernel
theorem dX11_foretold_82 : decode cX11_foretold 82 = .ok (.invokevirtual 413, 3) := by decide +kernel
theorem dX11_foretold_85 : decode cX11_foretold 85 = .ok (.istore 4, 2) := by decide +kernel
theorem dX11_foretold_87 : decode cX11_foretold 87 = .ok (.iload 4, 2) := by decide +kernel
theorem dX11_foretold_89 : decode cX11_foretold 89 = .ok (.bipush (-2), 2) := by decide +kernel
theorem dX11_foretold_91 : decode cX11_foretold 91 = .ok (.if_icmp .ne 8, 3) := by decide +kernel
theorem dX11_foretold_94 : decode cX11_foretold 94 = .ok (.bipush (-2), 2) := by decide +kernel
theorem dX11_foretold_96 : decode cX11_foretold 96 = .ok (.goto 15, 3) := by decide +kernel
theorem dX11_foretold_99 : decode cX11_foretold 99 = .ok (.iload 4, 2) := by decide +kernel
theorem dX11_foretold_101 : decode cX11_foretold 101 = .ok (.ifCond .ge 9, 3) := by decide +kernel
theorem dX11_foretold_104 : decode cX11_foretold 104 = .ok (.iload 4, 2) := by decide +kernel
theorem dX11_foretold_106 : decode cX11_foretold 106 = .ok (.ineg, 1) := by decide +kernel
theorem dX11_foretold_107 : decode cX11_foretold 107 = .ok (.goto 4, 3) := by decide +kernel
theorem dX11_foretold_110 : decode cX11_foretold 110 = .ok (.iconst 0, 1) := by decide +kernel
theorem dX11_foretold_111 : decode cX11_foretold 111 = .ok (.ireturn, 1) := by decide +kernel
theorem dX11_touch_0 : decode cX11_touch 0 = .ok (.aload_n 0, 1) := by decide +kernel
theorem dX11_touch_1 : decode cX11_touch 1 = .ok (.iload_n 1, 1) := by decide +kernel
theorem dX11_touch_2 : decode cX11_touch 2 = .ok (.invokevirtual 398, 3) := by decide +kernel
theorem dX11_touch_5 : decode cX11_touch 5 = .ok (.astore_n 3, 1) := by decide +kernel
theorem dX11_touch_6 : decode cX11_touch 6 = .ok (.aload_n 3, 1) := by decide +kernel
theorem dX11_touch_7 : decode cX11_touch 7 = .ok (.ifnonnull 7, 3) := by decide +kernel
theorem dX11_touch_10 : decode cX11_touch 10 = .ok (.aconst_null, 1) := by decide +kernel
theorem dX11_touch_11 : decode cX11_touch 11 = .ok (.goto 11, 3) := by decide +kernel
theorem dX11_touch_14 : decode cX11_touch 14 = .ok (.aload_n 3, 1) := by decide +kernel
theorem dX11_touch_15 : decode cX11_touch 15 = .ok (.getfield 402, 3) := by decide +kernel
theorem dX11_touch_18 : decode cX11_touch 18 = .ok (.iload_n 2, 1) := by decide +kernel
theorem dX11_touch_19 : decode cX11_touch 19 = .ok (.invokestatic 152, 3) := by decide +kernel
theorem dX11_touch_22 : decode cX11_touch 22 = .ok (.astore 4, 2) := by decide +kernel
theorem dX11_touch_24 : decode cX11_touch 24 = .ok (.aload 4, 2) := by decide +kernel
theorem dX11_touch_26 : decode cX11_touch 26 = .ok (.ifnonnull 5, 3) := by decide +kernel
theorem dX11_touch_29 : decode cX11_touch 29 = .ok (.iconst (-1), 1) := by decide +kernel
theorem dX11_touch_30 : decode cX11_touch 30 = .ok (.ireturn, 1) := by decide +kernel
theorem dX11_touch_31 : decode cX11_touch 31 = .ok (.aload_n 3, 1) := by decide +kernel
theorem dX11_touch_32 : decode cX11_touch 32 = .ok (.aload 4, 2) := by decide +kernel
theorem dX11_touch_34 : decode cX11_touch 34 = .ok (.getfield 134, 3) := by decide +kernel
theorem dX11_touch_37 : decode cX11_touch 37 = .ok (.invokevirtual 409, 3) := by decide +kernel
theorem dX11_touch_40 : decode cX11_touch 40 = .ok (.ifCond .eq 6, 3) := by decide +kernel
theorem dX11_touch_43 : decode cX11_touch 43 = .ok (.bipush (-2), 2) := by decide +kernel
theorem dX11_touch_45 : decode cX11_touch 45 = .ok (.ireturn, 1) := by decide +kernel
theorem dX11_touch_46 : decode cX11_touch 46 = .ok (.aload_n 0, 1) := by decide +kernel
theorem dX11_touch_47 : decode cX11_touch 47 = .ok (.getfield 26, 3) := by decide +kernel
theorem dX11_touch_50 : decode cX11_touch 50 = .ok (.aload_n 3, 1) := by decide +kernel
theorem dX11_touch_51 : decode cX11_touch 51 = .ok (.getfield 402, 3) := by decide +kernel
theorem dX11_touch_54 : decode cX11_touch 54 = .ok (.ldc 192, 2) := by decide +kernel
theorem dX11_touch_56 : decode cX11_touch 56 = .ok (.invokevirtual 193, 3) := by decide +kernel
theorem dX11_touch_59 : decode cX11_touch 59 = .ok (.aload_n 0, 1) := by decide +kernel
theorem dX11_touch_60 : decode cX11_touch 60 = .ok (.getfield 26, 3) := by decide +kernel
theorem dX11_touch_63 : decode cX11_touch 63 = .ok (.aload_n 3, 1) := by decide +kernel
theorem dX11_touch_64 : decode cX11_touch 64 = .ok (.invokevirtual 416, 3) := by decide +kernel
theorem dX11_touch_67 : decode cX11_touch 67 = .ok (.aload_n 0, 1) := by decide +kernel
theorem dX11_touch_68 : decode cX11_touch 68 = .ok (.aload 4, 2) := by decide +kernel
theorem dX11_touch_70 : decode cX11_touch 70 = .ok (.invokevirtual 216, 3) := by decide +kernel
theorem dX11_touch_73 : decode cX11_touch 73 = .ok (.ireturn, 1) := by decide +kernel
theorem dX11_parcelAt_0 : decode cX11_parcelAt 0 = .ok (.iload_n 1, 1) := by decide +kernel
theorem dX11_parcelAt_1 : decode cX11_parcelAt 1 = .ok (.ifCond .lt 14, 3) := by decide +kernel
theorem dX11_parcelAt_4 : decode cX11_parcelAt 4 = .ok (.iload_n 1, 1) := by decide +kernel
theorem dX11_parcelAt_5 : decode cX11_parcelAt 5 = .ok (.aload_n 0, 1) := by decide +kernel
theorem dX11_parcelAt_6 : decode cX11_parcelAt 6 = .ok (.getfield 19, 3) := by decide +kernel
theorem dX11_parcelAt_9 : decode cX11_parcelAt 9 = .ok (.invokevirtual 88, 3) := by decide +kernel
theorem dX11_parcelAt_12 : decode cX11_parcelAt 12 = .ok (.if_icmp .lt 7, 3) := by decide +kernel
theorem dX11_parcelAt_15 : decode cX11_parcelAt 15 = .ok (.aconst_null, 1) := by decide +kernel
theorem dX11_parcelAt_16 : decode cX11_parcelAt 16 = .ok (.goto 14, 3) := by decide +kernel
theorem dX11_parcelAt_19 : decode cX11_parcelAt 19 = .ok (.aload_n 0, 1) := by decide +kernel
theorem dX11_parcelAt_20 : decode cX11_parcelAt 20 = .ok (.getfield 19, 3) := by decide +kernel
theorem dX11_parcelAt_23 : decode cX11_parcelAt 23 = .ok (.iload_n 1, 1) := by decide +kernel
theorem dX11_parcelAt_24 : decode cX11_parcelAt 24 = .ok (.invokevirtual 162, 3) := by decide +kernel
theorem dX11_parcelAt_27 : decode cX11_parcelAt 27 = .ok (.checkcast 101, 3) := by decide +kernel
theorem dX11_parcelAt_30 : decode cX11_parcelAt 30 = .ok (.areturn, 1) := by decide +kernel
theorem dX11_partAt_0 : decode cX11_partAt 0 = .ok (.iload_n 1, 1) := by decide +kernel
theorem dX11_partAt_1 : decode cX11_partAt 1 = .ok (.ifCond .lt 11, 3) := by decide +kernel
theorem dX11_partAt_4 : decode cX11_partAt 4 = .ok (.iload_n 1, 1) := by decide +kernel
theorem dX11_partAt_5 : decode cX11_partAt 5 = .ok (.aload_n 0, 1) := by decide +kernel
theorem dX11_partAt_6 : decode cX11_partAt 6 = .ok (.invokevirtual 88, 3) := by decide +kernel
theorem dX11_partAt_9 : decode cX11_partAt 9 = .ok (.if_icmp .lt 7, 3) := by decide +kernel
theorem dX11_partAt_12 : decode cX11_partAt 12 = .ok (.aconst_null, 1) := by decide +kernel
theorem dX11_partAt_13 : decode cX11_partAt 13 = .ok (.goto 11, 3) := by decide +kernel
theorem dX11_partAt_16 : decode cX11_partAt 16 = .ok (.aload_n 0, 1) := by decide +kernel
theorem dX11_partAt_17 : decode cX11_partAt 17 = .ok (.iload_n 1, 1) := by decide +kernel
theorem dX11_partAt_18 : decode cX11_partAt 18 = .ok (.invokevirtual 162, 3) := by decide +kernel
theorem dX11_partAt_21 : decode cX11_partAt 21 = .ok (.checkcast 135, 3) := by decide +kernel
theorem dX11_partAt_24 : decode cX11_partAt 24 = .ok (.areturn, 1) := by decide +kernel
theorem dX11_caseAt_0 : decode cX11_caseAt 0 = .ok (.aload_n 0, 1) := by decide +kernel
theorem dX11_caseAt_1 : decode cX11_caseAt 1 = .ok (.ifnonnull 7, 3) := by decide +kernel
theorem dX11_caseAt_4 : decode cX11_caseAt 4 = .ok (.aconst_null, 1) := by decide +kernel
theorem dX11_caseAt_5 : decode cX11_caseAt 5 = .ok (.goto 11, 3) := by decide +kernel
theorem dX11_caseAt_8 : decode cX11_caseAt 8 = .ok (.aload_n 0, 1) := by decide +kernel
theorem dX11_caseAt_9 : decode cX11_caseAt 9 = .ok (.getfield 121, 3) := by decide +kernel
theorem dX11_caseAt_12 : decode cX11_caseAt 12 = .ok (.iload_n 1, 1) := by decide +kernel
theorem dX11_caseAt_13 : decode cX11_caseAt 13 = .ok (.invokestatic 130, 3) := by decide +kernel
theorem dX11_caseAt_16 : decode cX11_caseAt 16 = .ok (.areturn, 1) := by decide +kernel
theorem dX11_twinAt_0 : decode cX11_twinAt 0 = .ok (.iconst 0, 1) := by decide +kernel
theorem dX11_twinAt_1 : decode cX11_twinAt 1 = .ok (.istore_n 2, 1) := by decide +kernel
theorem dX11_twinAt_2 : decode cX11_twinAt 2 = .ok (.iload_n 2, 1) := by decide +kernel
theorem dX11_twinAt_3 : decode cX11_twinAt 3 = .ok (.bipush 8, 2) := by decide +kernel
theorem dX11_twinAt_5 : decode cX11_twinAt 5 = .ok (.if_icmp .ge 39, 3) := by decide +kernel
theorem dX11_twinAt_8 : decode cX11_twinAt 8 = .ok (.iload_n 1, 1) := by decide +kernel
theorem dX11_twinAt_9 : decode cX11_twinAt 9 = .ok (.ifCond .lt 35, 3) := by decide +kernel
theorem dX11_twinAt_12 : decode cX11_twinAt 12 = .ok (.aload_n 0, 1) := by decide +kernel
theorem dX11_twinAt_13 : decode cX11_twinAt 13 = .ok (.getfield 26, 3) := by decide +kernel
theorem dX11_twinAt_16 : decode cX11_twinAt 16 = .ok (.getfield 235, 3) := by decide +kernel
theorem dX11_twinAt_19 : decode cX11_twinAt 19 = .ok (.iload_n 2, 1) := by decide +kernel
theorem dX11_twinAt_20 : decode cX11_twinAt 20 = .ok (.aaload, 1) := by decide +kernel
theorem dX11_twinAt_21 : decode cX11_twinAt 21 = .ok (.getfield 245, 3) := by decide +kernel
theorem dX11_twinAt_24 : decode cX11_twinAt 24 = .ok (.iload_n 1, 1) := by decide +kernel
theorem dX11_twinAt_25 : decode cX11_twinAt 25 = .ok (.if_icmp .ne 13, 3) := by decide +kernel
theorem dX11_twinAt_28 : decode cX11_twinAt 28 = .ok (.aload_n 0, 1) := by decide +kernel
theorem dX11_twinAt_29 : decode cX11_twinAt 29 = .ok (.getfield 26, 3) := by decide +kernel
theorem dX11_twinAt_32 : decode cX11_twinAt 32 = .ok (.getfield 235, 3) := by decide +kernel
theorem dX11_twinAt_35 : decode cX11_twinAt 35 = .ok (.iload_n 2, 1) := by decide +kernel
theorem dX11_twinAt_36 : decode cX11_twinAt 36 = .ok (.aaload, 1) := by decide +kernel
theorem dX11_twinAt_37 : decode cX11_twinAt 37 = .ok (.areturn, 1) := by decide +kernel
theorem dX11_twinAt_38 : decode cX11_twinAt 38 = .ok (.iinc 2 1, 3) := by decide +kernel
theorem dX11_twinAt_41 : decode cX11_twinAt 41 = .ok (.goto (-39), 3) := by decide +kernel
theorem dX11_twinAt_44 : decode cX11_twinAt 44 = .ok (.aconst_null, 1) := by decide +kernel
theorem dX11_twinAt_45 : decode cX11_twinAt 45 = .ok (.areturn, 1) := by decide +kernel
theorem dX11_historyAt_0 : decode cX11_historyAt 0 = .ok (.iload_n 1, 1) := by decide +kernel
theorem dX11_historyAt_1 : decode cX11_historyAt 1 = .ok (.ifCond .lt 14, 3) := by decide +kernel
theorem dX11_historyAt_4 : decode cX11_historyAt 4 = .ok (.iload_n 1, 1) := by decide +kernel
theorem dX11_historyAt_5 : decode cX11_historyAt 5 = .ok (.aload_n 0, 1) := by decide +kernel
theorem dX11_historyAt_6 : decode cX11_historyAt 6 = .ok (.getfield 33, 3) := by decide +kernel
theorem dX11_historyAt_9 : decode cX11_historyAt 9 = .ok (.invokevirtual 88, 3) := by decide +kernel
theorem dX11_historyAt_12 : decode cX11_historyAt 12 = .ok (.if_icmp .lt 7, 3) := by decide +kernel
theorem dX11_historyAt_15 : decode cX11_historyAt 15 = .ok (.aconst_null, 1) := by decide +kernel
theorem dX11_historyAt_16 : decode cX11_historyAt 16 = .ok (.goto 14, 3) := by decide +kernel
theorem dX11_historyAt_19 : decode cX11_historyAt 19 = .ok (.aload_n 0, 1) := by decide +kernel
theorem dX11_historyAt_20 : decode cX11_historyAt 20 = .ok (.getfield 33, 3) := by decide +kernel
theorem dX11_historyAt_23 : decode cX11_historyAt 23 = .ok (.iload_n 1, 1) := by decide +kernel
theorem dX11_historyAt_24 : decode cX11_historyAt 24 = .ok (.invokevirtual 162, 3) := by decide +kernel
theorem dX11_historyAt_27 : decode cX11_historyAt 27 = .ok (.checkcast 338, 3) := by decide +kernel
theorem dX11_historyAt_30 : decode cX11_historyAt 30 = .ok (.areturn, 1) := by decide +kernel
theorem dX11_buildAt_0 : decode cX11_buildAt 0 = .ok (.iload_n 1, 1) := by decide +kernel
theorem dX11_buildAt_1 : decode cX11_buildAt 1 = .ok (.ifCond .lt 14, 3) := by decide +kernel
theorem dX11_buildAt_4 : decode cX11_buildAt 4 = .ok (.iload_n 1, 1) := by decide +kernel
theorem dX11_buildAt_5 : decode cX11_buildAt 5 = .ok (.aload_n 0, 1) := by decide +kernel
theorem dX11_buildAt_6 : decode cX11_buildAt 6 = .ok (.getfield 30, 3) := by decide +kernel
theorem dX11_buildAt_9 : decode cX11_buildAt 9 = .ok (.invokevirtual 88, 3) := by decide +kernel
theorem dX11_buildAt_12 : decode cX11_buildAt 12 = .ok (.if_icmp .lt 7, 3) := by decide +kernel
theorem dX11_buildAt_15 : decode cX11_buildAt 15 = .ok (.aconst_null, 1) := by decide +kernel
theorem dX11_buildAt_16 : decode cX11_buildAt 16 = .ok (.goto 14, 3) := by decide +kernel
theorem dX11_buildAt_19 : decode cX11_buildAt 19 = .ok (.aload_n 0, 1) := by decide +kernel
theorem dX11_buildAt_20 : decode cX11_buildAt 20 = .ok (.getfield 30, 3) := by decide +kernel
theorem dX11_buildAt_23 : decode cX11_buildAt 23 = .ok (.iload_n 1, 1) := by decide +kernel
theorem dX11_buildAt_24 : decode cX11_buildAt 24 = .ok (.invokevirtual 162, 3) := by decide +kernel
theorem dX11_buildAt_27 : decode cX11_buildAt 27 = .ok (.checkcast 393, 3) := by decide +kernel
theorem dX11_buildAt_30 : decode cX11_buildAt 30 = .ok (.areturn, 1) := by decide +kernel
theorem dX11_byteOf_0 : decode cX11_byteOf 0 = .ok (.bipush 71, 2) := by decide +kernel
theorem dX11_byteOf_2 : decode cX11_byteOf 2 = .ok (.lload_n 0, 1) := by decide +kernel
theorem dX11_byteOf_3 : decode cX11_byteOf 3 = .ok (.invokestatic 420, 3) := by decide +kernel
theorem dX11_byteOf_6 : decode cX11_byteOf 6 = .ok (.isub, 1) := by decide +kernel
theorem dX11_byteOf_7 : decode cX11_byteOf 7 = .ok (.bipush 8, 2) := by decide +kernel
theorem dX11_byteOf_9 : decode cX11_byteOf 9 = .ok (.idiv, 1) := by decide +kernel
theorem dX11_byteOf_10 : decode cX11_byteOf 10 = .ok (.istore_n 3, 1) := by decide +kernel
theorem dX11_byteOf_11 : decode cX11_byteOf 11 = .ok (.iload_n 2, 1) := by decide +kernel
theorem dX11_byteOf_12 : decode cX11_byteOf 12 = .ok (.ifCond .lt 8, 3) := by decide +kernel
theorem dX11_byteOf_15 : decode cX11_byteOf 15 = .ok (.iload_n 2, 1) := by decide +kernel
theorem dX11_byteOf_16 : decode cX11_byteOf 16 = .ok (.iload_n 3, 1) := by decide +kernel
theorem dX11_byteOf_17 : decode cX11_byteOf 17 = .ok (.if_icmp .lt 7, 3) := by decide +kernel
theorem dX11_byteOf_20 : decode cX11_byteOf 20 = .ok (.iconst (-1), 1) := by decide +kernel
theorem dX11_byteOf_21 : decode cX11_byteOf 21 = .ok (.goto 18, 3) := by decide +kernel
theorem dX11_byteOf_24 : decode cX11_byteOf 24 = .ok (.lload_n 0, 1) := by decide +kernel
theorem dX11_byteOf_25 : decode cX11_byteOf 25 = .ok (.bipush 8, 2) := by decide +kernel
theorem dX11_byteOf_27 : decode cX11_byteOf 27 = .ok (.iload_n 3, 1) := by decide +kernel
theorem dX11_byteOf_28 : decode cX11_byteOf 28 = .ok (.iconst 1, 1) := by decide +kernel
theorem dX11_byteOf_29 : decode cX11_byteOf 29 = .ok (.isub, 1) := by decide +kernel
theorem dX11_byteOf_30 : decode cX11_byteOf 30 = .ok (.iload_n 2, 1) := by decide +kernel
theorem dX11_byteOf_31 : decode cX11_byteOf 31 = .ok (.isub, 1) := by decide +kernel
theorem dX11_byteOf_32 : decode cX11_byteOf 32 = .ok (.imul, 1) := by decide +kernel
theorem dX11_byteOf_33 : decode cX11_byteOf 33 = .ok (.lushr, 1) := by decide +kernel
theorem dX11_byteOf_34 : decode cX11_byteOf 34 = .ok (.l2i, 1) := by decide +kernel
theorem dX11_byteOf_35 : decode cX11_byteOf 35 = .ok (.sipush 255, 3) := by decide +kernel
theorem dX11_byteOf_38 : decode cX11_byteOf 38 = .ok (.iand, 1) := by decide +kernel
theorem dX11_byteOf_39 : decode cX11_byteOf 39 = .ok (.ireturn, 1) := by decide +kernel
theorem dX11_runCases_0 : decode cX11_runCases 0 = .ok (.aload_n 0, 1) := by decide +kernel
theorem dX11_runCases_1 : decode cX11_runCases 1 = .ok (.getfield 26, 3) := by decide +kernel
theorem dX11_runCases_4 : decode cX11_runCases 4 = .ok (.invokevirtual 426, 3) := by decide +kernel
theorem dX11_runCases_7 : decode cX11_runCases 7 = .ok (.aload_n 0, 1) := by decide +kernel
theorem dX11_runCases_8 : decode cX11_runCases 8 = .ok (.getfield 26, 3) := by decide +kernel
theorem dX11_runCases_11 : decode cX11_runCases 11 = .ok (.getfield 381, 3) := by decide +kernel
theorem dX11_runCases_14 : decode cX11_runCases 14 = .ok (.astore 6, 2) := by decide +kernel
theorem dX11_runCases_16 : decode cX11_runCases 16 = .ok (.iconst 0, 1) := by decide +kernel
theorem dX11_runCases_17 : decode cX11_runCases 17 = .ok (.istore 7, 2) := by decide +kernel
theorem dX11_runCases_19 : decode cX11_runCases 19 = .ok (.iload 7, 2) := by decide +kernel
theorem dX11_runCases_21 : decode cX11_runCases 21 = .ok (.iload_n 3, 1) := by decide +kernel
theorem dX11_runCases_22 : decode cX11_runCases 22 = .ok (.if_icmp .ge 116, 3) := by decide +kernel
theorem dX11_runCases_25 : decode cX11_runCases 25 = .ok (.aload_n 0, 1) := by decide +kernel
theorem dX11_runCases_26 : decode cX11_runCases 26 = .ok (.getfield 26, 3) := by decide +kernel
theorem dX11_runCases_29 : decode cX11_runCases 29 = .ok (.invokevirtual 294, 3) := by decide +kernel
theorem dX11_runCases_32 : decode cX11_runCases 32 = .ok (.ifCond .ne 106, 3) := by decide +kernel
theorem dX11_runCases_35 : decode cX11_runCases 35 = .ok (.aload_n 2, 1) := by decide +kernel
theorem dX11_runCases_36 : decode cX11_runCases 36 = .ok (.iload 7, 2) := by decide +kernel
theorem dX11_runCases_38 : decode cX11_runCases 38 = .ok (.iaload, 1) := by decide +kernel
theorem dX11_runCases_39 : decode cX11_runCases 39 = .ok (.istore 8, 2) := by decide +kernel
theorem dX11_runCases_41 : decode cX11_runCases 41 = .ok (.aload_n 1, 1) := by decide +kernel
theorem dX11_runCases_42 : decode cX11_runCases 42 = .ok (.getfield 121, 3) := by decide +kernel
theorem dX11_runCases_45 : decode cX11_runCases 45 = .ok (.iload 8, 2) := by decide +kernel
theorem dX11_runCases_47 : decode cX11_runCases 47 = .ok (.invokestatic 130, 3) := by decide +kernel
theorem dX11_runCases_50 : decode cX11_runCases 50 = .ok (.astore 9, 2) := by decide +kernel
theorem dX11_runCases_52 : decode cX11_runCases 52 = .ok (.aload 9, 2) := by decide +kernel
theorem dX11_runCases_54 : decode cX11_runCases 54 = .ok (.ifnull 78, 3) := by decide +kernel
theorem dX11_runCases_57 : decode cX11_runCases 57 = .ok (.iload 7, 2) := by decide +kernel
theorem dX11_runCases_59 : decode cX11_runCases 59 = .ok (.iload 4, 2) := by decide +kernel
theorem dX11_runCases_61 : decode cX11_runCases 61 = .ok (.if_icmp .eq 71, 3) := by decide +kernel
theorem dX11_runCases_64 : decode cX11_runCases 64 = .ok (.aload_n 0, 1) := by decide +kernel
theorem dX11_runCases_65 : decode cX11_runCases 65 = .ok (.getfield 26, 3) := by decide +kernel
theorem dX11_runCases_68 : decode cX11_runCases 68 = .ok (.iload 7, 2) := by decide +kernel
theorem dX11_runCases_70 : decode cX11_runCases 70 = .ok (.iconst 1, 1) := by decide +kernel
theorem dX11_runCases_71 : decode cX11_runCases 71 = .ok (.iadd, 1) := by decide +kernel
theorem dX11_runCases_72 : decode cX11_runCases 72 = .ok (.putfield 429, 3) := by decide +kernel
theorem dX11_runCases_75 : decode cX11_runCases 75 = .ok (.aload_n 0, 1) := by decide +kernel
theorem dX11_runCases_76 : decode cX11_runCases 76 = .ok (.getfield 26, 3) := by decide +kernel
theorem dX11_runCases_79 : decode cX11_runCases 79 = .ok (.aload 9, 2) := by decide +kernel
theorem dX11_runCases_81 : decode cX11_runCases 81 = .ok (.invokevirtual 432, 3) := by decide +kernel
theorem dX11_runCases_84 : decode cX11_runCases 84 = .ok (.aload 5, 2) := by decide +kernel
theorem dX11_runCases_86 : decode cX11_runCases 86 = .ok (.iconst 0, 1) := by decide +kernel
theorem dX11_runCases_87 : decode cX11_runCases 87 = .ok (.aaload, 1) := by decide +kernel
theorem dX11_runCases_88 : decode cX11_runCases 88 = .ok (.iload 8, 2) := by decide +kernel
theorem dX11_runCases_90 : decode cX11_runCases 90 = .ok (.aload 6, 2) := by decide +kernel
theorem dX11_runCases_92 : decode cX11_runCases 92 = .ok (.getfield 384, 3) := by decide +kernel
theorem dX11_runCases_95 : decode cX11_runCases 95 = .ok (.iastore, 1) := by decide +kernel
theorem dX11_runCases_96 : decode cX11_runCases 96 = .ok (.aload 5, 2) := by decide +kernel
theorem dX11_runCases_98 : decode cX11_runCases 98 = .ok (.iconst 1, 1) := by decide +kernel
theorem dX11_runCases_99 : decode cX11_runCases 99 = .ok (.aaload, 1) := by decide +kernel
theorem dX11_runCases_100 : decode cX11_runCases 100 = .ok (.iload 8, 2) := by decide +kernel
theorem dX11_runCases_102 : decode cX11_runCases 102 = .ok (.aload 6, 2) := by decide +kernel
theorem dX11_runCases_104 : decode cX11_runCases 104 = .ok (.getfield 223, 3) := by decide +kernel
theorem dX11_runCases_107 : decode cX11_runCases 107 = .ok (.iastore, 1) := by decide +kernel
theorem dX11_runCases_108 : decode cX11_runCases 108 = .ok (.aload 5, 2) := by decide +kernel
theorem dX11_runCases_110 : decode cX11_runCases 110 = .ok (.iconst 2, 1) := by decide +kernel
theorem dX11_runCases_111 : decode cX11_runCases 111 = .ok (.aaload, 1) := by decide +kernel
theorem dX11_runCases_112 : decode cX11_runCases 112 = .ok (.iload 8, 2) := by decide +kernel
theorem dX11_runCases_114 : decode cX11_runCases 114 = .ok (.aload 6, 2) := by decide +kernel
theorem dX11_runCases_116 : decode cX11_runCases 116 = .ok (.getfield 226, 3) := by decide +kernel
theorem dX11_runCases_119 : decode cX11_runCases 119 = .ok (.iastore, 1) := by decide +kernel
theorem dX11_runCases_120 : decode cX11_runCases 120 = .ok (.aload 5, 2) := by decide +kernel
theorem dX11_runCases_122 : decode cX11_runCases 122 = .ok (.iconst 3, 1) := by decide +kernel
theorem dX11_runCases_123 : decode cX11_runCases 123 = .ok (.aaload, 1) := by decide +kernel
theorem dX11_runCases_124 : decode cX11_runCases 124 = .ok (.iload 8, 2) := by decide +kernel
theorem dX11_runCases_126 : decode cX11_runCases 126 = .ok (.aload 6, 2) := by decide +kernel
theorem dX11_runCases_128 : decode cX11_runCases 128 = .ok (.getfield 229, 3) := by decide +kernel
theorem dX11_runCases_131 : decode cX11_runCases 131 = .ok (.iastore, 1) := by decide +kernel
theorem dX11_runCases_132 : decode cX11_runCases 132 = .ok (.iinc 7 1, 3) := by decide +kernel
theorem dX11_runCases_135 : decode cX11_runCases 135 = .ok (.goto (-116), 3) := by decide +kernel
theorem dX11_runCases_138 : decode cX11_runCases 138 = .ok (.return_, 1) := by decide +kernel
theorem dX11_liveWatched_0 : decode cX11_liveWatched 0 = .ok (.aload_n 0, 1) := by decide +kernel
theorem dX11_liveWatched_1 : decode cX11_liveWatched 1 = .ok (.getfield 26, 3) := by decide +kernel
theorem dX11_liveWatched_4 : decode cX11_liveWatched 4 = .ok (.iconst 1, 1) := by decide +kernel
theorem dX11_liveWatched_5 : decode cX11_liveWatched 5 = .ok (.invokevirtual 197, 3) := by decide +kernel
theorem dX11_liveWatched_8 : decode cX11_liveWatched 8 = .ok (.aload_n 0, 1) := by decide +kernel
theorem dX11_liveWatched_9 : decode cX11_liveWatched 9 = .ok (.getfield 26, 3) := by decide +kernel
theorem dX11_liveWatched_12 : decode cX11_liveWatched 12 = .ok (.invokevirtual 426, 3) := by decide +kernel
theorem dX11_liveWatched_15 : decode cX11_liveWatched 15 = .ok (.aload_n 0, 1) := by decide +kernel
theorem dX11_liveWatched_16 : decode cX11_liveWatched 16 = .ok (.getfield 26, 3) := by decide +kernel
theorem dX11_liveWatched_19 : decode cX11_liveWatched 19 = .ok (.aload_n 1, 1) := by decide +kernel
theorem dX11_liveWatched_20 : decode cX11_liveWatched 20 = .ok (.invokevirtual 432, 3) := by decide +kernel
theorem dX11_liveWatched_23 : decode cX11_liveWatched 23 = .ok (.aload_n 0, 1) := by decide +kernel
theorem dX11_liveWatched_24 : decode cX11_liveWatched 24 = .ok (.getfield 39, 3) := by decide +kernel
theorem dX11_liveWatched_27 : decode cX11_liveWatched 27 = .ok (.aload_n 0, 1) := by decide +kernel
theorem dX11_liveWatched_28 : decode cX11_liveWatched 28 = .ok (.getfield 26, 3) := by decide +kernel
theorem dX11_liveWatched_31 : decode cX11_liveWatched 31 = .ok (.getfield 381, 3) := by decide +kernel
theorem dX11_liveWatched_34 : decode cX11_liveWatched 34 = .ok (.invokevirtual 436, 3) := by decide +kernel
theorem dX11_liveWatched_37 : decode cX11_liveWatched 37 = .ok (.aload_n 0, 1) := by decide +kernel
theorem dX11_liveWatched_38 : decode cX11_liveWatched 38 = .ok (.iconst 1, 1) := by decide +kernel
theorem dX11_liveWatched_39 : decode cX11_liveWatched 39 = .ok (.putfield 220, 3) := by decide +kernel
theorem dX11_liveWatched_42 : decode cX11_liveWatched 42 = .ok (.aload_n 0, 1) := by decide +kernel
theorem dX11_liveWatched_43 : decode cX11_liveWatched 43 = .ok (.getfield 39, 3) := by decide +kernel
theorem dX11_liveWatched_46 : decode cX11_liveWatched 46 = .ok (.getfield 384, 3) := by decide +kernel
theorem dX11_liveWatched_49 : decode cX11_liveWatched 49 = .ok (.ireturn, 1) := by decide +kernel
theorem dX11_casesThatDiffer_0 : decode cX11_casesThatDiffer 0 = .ok (.iconst 0, 1) := by decide +kernel
theorem dX11_casesThatDiffer_1 : decode cX11_casesThatDiffer 1 = .ok (.istore_n 2, 1) := by decide +kernel
theorem dX11_casesThatDiffer_2 : decode cX11_casesThatDiffer 2 = .ok (.iconst 0, 1) := by decide +kernel
theorem dX11_casesThatDiffer_3 : decode cX11_casesThatDiffer 3 = .ok (.istore_n 3, 1) := by decide +kernel
theorem dX11_casesThatDiffer_4 : decode cX11_casesThatDiffer 4 = .ok (.iload_n 3, 1) := by decide +kernel
theorem dX11_casesThatDiffer_5 : decode cX11_casesThatDiffer 5 = .ok (.iload_n 1, 1) := by decide +kernel
theorem dX11_casesThatDiffer_6 : decode cX11_casesThatDiffer 6 = .ok (.if_icmp .ge 53, 3) := by decide +kernel
theorem dX11_casesThatDiffer_9 : decode cX11_casesThatDiffer 9 = .ok (.aload_n 0, 1) := by decide +kernel
theorem dX11_casesThatDiffer_10 : decode cX11_casesThatDiffer 10 = .ok (.getfield 69, 3) := by decide +kernel
theorem dX11_casesThatDiffer_13 : decode cX11_casesThatDiffer 13 = .ok (.iconst 0, 1) := by decide +kernel
theorem dX11_casesThatDiffer_14 : decode cX11_casesThatDiffer 14 = .ok (.aaload, 1) := by decide +kernel
theorem dX11_casesThatDiffer_15 : decode cX11_casesThatDiffer 15 = .ok (.iload_n 3, 1) := by decide +kernel
theorem dX11_casesThatDiffer_16 : decode cX11_casesThatDiffer 16 = .ok (.iaload, 1) := by decide +kernel
theorem dX11_casesThatDiffer_17 : decode cX11_casesThatDiffer 17 = .ok (.aload_n 0, 1) := by decide +kernel
theorem dX11_casesThatDiffer_18 : decode cX11_casesThatDiffer 18 = .ok (.getfield 72, 3) := by decide +kernel
theorem dX11_casesThatDiffer_21 : decode cX11_casesThatDiffer 21 = .ok (.iconst 0, 1) := by decide +kernel
theorem dX11_casesThatDiffer_22 : decode cX11_casesThatDiffer 22 = .ok (.aaload, 1) := by decide +kernel
theorem dX11_casesThatDiffer_23 : decode cX11_casesThatDiffer 23 = .ok (.iload_n 3, 1) := by decide +kernel
theorem dX11_casesThatDiffer_24 : decode cX11_casesThatDiffer 24 = .ok (.iaload, 1) := by decide +kernel
theorem dX11_casesThatDiffer_25 : decode cX11_casesThatDiffer 25 = .ok (.if_icmp .ne 22, 3) := by decide +kernel
theorem dX11_casesThatDiffer_28 : decode cX11_casesThatDiffer 28 = .ok (.aload_n 0, 1) := by decide +kernel
theorem dX11_casesThatDiffer_29 : decode cX11_casesThatDiffer 29 = .ok (.getfield 69, 3) := by decide +kernel
theorem dX11_casesThatDiffer_32 : decode cX11_casesThatDiffer 32 = .ok (.iconst 1, 1) := by decide +kernel
theorem dX11_casesThatDiffer_33 : decode cX11_casesThatDiffer 33 = .ok (.aaload, 1) := by decide +kernel
theorem dX11_casesThatDiffer_34 : decode cX11_casesThatDiffer 34 = .ok (.iload_n 3, 1) := by decide +kernel
theorem dX11_casesThatDiffer_35 : decode cX11_casesThatDiffer 35 = .ok (.iaload, 1) := by decide +kernel
theorem dX11_casesThatDiffer_36 : decode cX11_casesThatDiffer 36 = .ok (.aload_n 0, 1) := by decide +kernel
theorem dX11_casesThatDiffer_37 : decode cX11_casesThatDiffer 37 = .ok (.getfield 72, 3) := by decide +kernel
theorem dX11_casesThatDiffer_40 : decode cX11_casesThatDiffer 40 = .ok (.iconst 1, 1) := by decide +kernel
theorem dX11_casesThatDiffer_41 : decode cX11_casesThatDiffer 41 = .ok (.aaload, 1) := by decide +kernel
theorem dX11_casesThatDiffer_42 : decode cX11_casesThatDiffer 42 = .ok (.iload_n 3, 1) := by decide +kernel
theorem dX11_casesThatDiffer_43 : decode cX11_casesThatDiffer 43 = .ok (.iaload, 1) := by decide +kernel
theorem dX11_casesThatDiffer_44 : decode cX11_casesThatDiffer 44 = .ok (.if_icmp .eq 9, 3) := by decide +kernel
theorem dX11_casesThatDiffer_47 : decode cX11_casesThatDiffer 47 = .ok (.iload_n 2, 1) := by decide +kernel
theorem dX11_casesThatDiffer_48 : decode cX11_casesThatDiffer 48 = .ok (.iconst 1, 1) := by decide +kernel
theorem dX11_casesThatDiffer_49 : decode cX11_casesThatDiffer 49 = .ok (.iload_n 3, 1) := by decide +kernel
theorem dX11_casesThatDiffer_50 : decode cX11_casesThatDiffer 50 = .ok (.ishl, 1) := by decide +kernel
theorem dX11_casesThatDiffer_51 : decode cX11_casesThatDiffer 51 = .ok (.ior, 1) := by decide +kernel
theorem dX11_casesThatDiffer_52 : decode cX11_casesThatDiffer 52 = .ok (.istore_n 2, 1) := by decide +kernel
theorem dX11_casesThatDiffer_53 : decode cX11_casesThatDiffer 53 = .ok (.iinc 3 1, 3) := by decide +kernel
theorem dX11_casesThatDiffer_56 : decode cX11_casesThatDiffer 56 = .ok (.goto (-52), 3) := by decide +kernel
theorem dX11_casesThatDiffer_59 : decode cX11_casesThatDiffer 59 = .ok (.iload_n 2, 1) := by decide +kernel
theorem dX11_casesThatDiffer_60 : decode cX11_casesThatDiffer 60 = .ok (.ireturn, 1) := by decide +kernel
theorem dX11_caseOfSuite_0 : decode cX11_caseOfSuite 0 = .ok (.iconst 0, 1) := by decide +kernel
theorem dX11_caseOfSuite_1 : decode cX11_caseOfSuite 1 = .ok (.istore_n 2, 1) := by decide +kernel
theorem dX11_caseOfSuite_2 : decode cX11_caseOfSuite 2 = .ok (.iconst 0, 1) := by decide +kernel
theorem dX11_caseOfSuite_3 : decode cX11_caseOfSuite 3 = .ok (.istore_n 3, 1) := by decide +kernel
theorem dX11_caseOfSuite_4 : decode cX11_caseOfSuite 4 = .ok (.iload_n 3, 1) := by decide +kernel
theorem dX11_caseOfSuite_5 : decode cX11_caseOfSuite 5 = .ok (.bipush 16, 2) := by decide +kernel
theorem dX11_caseOfSuite_7 : decode cX11_caseOfSuite 7 = .ok (.if_icmp .ge 28, 3) := by decide +kernel
theorem dX11_caseOfSuite_10 : decode cX11_caseOfSuite 10 = .ok (.iload_n 0, 1) := by decide +kernel
theorem dX11_caseOfSuite_11 : decode cX11_caseOfSuite 11 = .ok (.iload_n 3, 1) := by decide +kernel
theorem dX11_caseOfSuite_12 : decode cX11_caseOfSuite 12 = .ok (.ishr, 1) := by decide +kernel
theorem dX11_caseOfSuite_13 : decode cX11_caseOfSuite 13 = .ok (.iconst 1, 1) := by decide +kernel
theorem dX11_caseOfSuite_14 : decode cX11_caseOfSuite 14 = .ok (.iand, 1) := by decide +kernel
theorem dX11_caseOfSuite_15 : decode cX11_caseOfSuite 15 = .ok (.iconst 1, 1) := by decide +kernel
theorem dX11_caseOfSuite_16 : decode cX11_caseOfSuite 16 = .ok (.if_icmp .ne 13, 3) := by decide +kernel
theorem dX11_caseOfSuite_19 : decode cX11_caseOfSuite 19 = .ok (.iload_n 2, 1) := by decide +kernel
theorem dX11_caseOfSuite_20 : decode cX11_caseOfSuite 20 = .ok (.iload_n 1, 1) := by decide +kernel
theorem dX11_caseOfSuite_21 : decode cX11_caseOfSuite 21 = .ok (.if_icmp .ne 5, 3) := by decide +kernel
theorem dX11_caseOfSuite_24 : decode cX11_caseOfSuite 24 = .ok (.iload_n 3, 1) := by decide +kernel
theorem dX11_caseOfSuite_25 : decode cX11_caseOfSuite 25 = .ok (.ireturn, 1) := by decide +kernel
theorem dX11_caseOfSuite_26 : decode cX11_caseOfSuite 26 = .ok (.iinc 2 1, 3) := by decide +kernel
theorem dX11_caseOfSuite_29 : decode cX11_caseOfSuite 29 = .ok (.iinc 3 1, 3) := by decide +kernel
theorem dX11_caseOfSuite_32 : decode cX11_caseOfSuite 32 = .ok (.goto (-28), 3) := by decide +kernel
theorem dX11_caseOfSuite_35 : decode cX11_caseOfSuite 35 = .ok (.iconst (-1), 1) := by decide +kernel
theorem dX11_caseOfSuite_36 : decode cX11_caseOfSuite 36 = .ok (.ireturn, 1) := by decide +kernel
theorem dX11_holdsOften_0 : decode cX11_holdsOften 0 = .ok (.aload_n 0, 1) := by decide +kernel
theorem dX11_holdsOften_1 : decode cX11_holdsOften 1 = .ok (.getfield 26, 3) := by decide +kernel
theorem dX11_holdsOften_4 : decode cX11_holdsOften 4 = .ok (.getfield 186, 3) := by decide +kernel
theorem dX11_holdsOften_7 : decode cX11_holdsOften 7 = .ok (.istore_n 3, 1) := by decide +kernel
theorem dX11_holdsOften_8 : decode cX11_holdsOften 8 = .ok (.aload_n 0, 1) := by decide +kernel
theorem dX11_holdsOften_9 : decode cX11_holdsOften 9 = .ok (.getfield 50, 3) := by decide +kernel
theorem dX11_holdsOften_12 : decode cX11_holdsOften 12 = .ok (.iconst 4, 1) := by decide +kernel
theorem dX11_holdsOften_13 : decode cX11_holdsOften 13 = .ok (.iconst 0, 1) := by decide +kernel
theorem dX11_holdsOften_14 : decode cX11_holdsOften 14 = .ok (.iastore, 1) := by decide +kernel
theorem dX11_holdsOften_15 : decode cX11_holdsOften 15 = .ok (.aload_n 0, 1) := by decide +kernel
theorem dX11_holdsOften_16 : decode cX11_holdsOften 16 = .ok (.getfield 50, 3) := by decide +kernel
theorem dX11_holdsOften_19 : decode cX11_holdsOften 19 = .ok (.iconst 5, 1) := by decide +kernel
theorem dX11_holdsOften_20 : decode cX11_holdsOften 20 = .ok (.iconst 0, 1) := by decide +kernel
theorem dX11_holdsOften_21 : decode cX11_holdsOften 21 = .ok (.iastore, 1) := by decide +kernel
theorem dX11_holdsOften_22 : decode cX11_holdsOften 22 = .ok (.iconst 1, 1) := by decide +kernel
theorem dX11_holdsOften_23 : decode cX11_holdsOften 23 = .ok (.istore 4, 2) := by decide +kernel
theorem dX11_holdsOften_25 : decode cX11_holdsOften 25 = .ok (.iconst 0, 1) := by decide +kernel
theorem dX11_holdsOften_26 : decode cX11_holdsOften 26 = .ok (.istore 5, 2) := by decide +kernel
theorem dX11_holdsOften_28 : decode cX11_holdsOften 28 = .ok (.iload 5, 2) := by decide +kernel
theorem dX11_holdsOften_30 : decode cX11_holdsOften 30 = .ok (.iload_n 2, 1) := by decide +kernel
theorem dX11_holdsOften_31 : decode cX11_holdsOften 31 = .ok (.if_icmp .ge 102, 3) := by decide +kernel
theorem dX11_holdsOften_34 : decode cX11_holdsOften 34 = .ok (.iload 4, 2) := by decide +kernel
theorem dX11_holdsOften_36 : decode cX11_holdsOften 36 = .ok (.ifCond .eq 97, 3) := by decide +kernel
theorem dX11_holdsOften_39 : decode cX11_holdsOften 39 = .ok (.aload_n 0, 1) := by decide +kernel
theorem dX11_holdsOften_40 : decode cX11_holdsOften 40 = .ok (.getfield 26, 3) := by decide +kernel
theorem dX11_holdsOften_43 : decode cX11_holdsOften 43 = .ok (.invokevirtual 294, 3) := by decide +kernel
theorem dX11_holdsOften_46 : decode cX11_holdsOften 46 = .ok (.ifCond .ne 87, 3) := by decide +kernel
theorem dX11_holdsOften_49 : decode cX11_holdsOften 49 = .ok (.iload 5, 2) := by decide +kernel
theorem dX11_holdsOften_51 : decode cX11_holdsOften 51 = .ok (.bipush 60, 2) := by decide +kernel
theorem dX11_holdsOften_53 : decode cX11_holdsOften 53 = .ok (.invokestatic 440, 3) := by decide +kernel
theorem dX11_holdsOften_56 : decode cX11_holdsOften 56 = .ok (.istore 6, 2) := by decide +kernel
theorem dX11_holdsOften_58 : decode cX11_holdsOften 58 = .ok (.iconst 0, 1) := by decide +kernel
theorem dX11_holdsOften_59 : decode cX11_holdsOften 59 = .ok (.istore 7, 2) := by decide +kernel
theorem dX11_holdsOften_61 : decode cX11_holdsOften 61 = .ok (.iload 7, 2) := by decide +kernel
theorem dX11_holdsOften_63 : decode cX11_holdsOften 63 = .ok (.aload_n 1, 1) := by decide +kernel
theorem dX11_holdsOften_64 : decode cX11_holdsOften 64 = .ok (.getfield 146, 3) := by decide +kernel
theorem dX11_holdsOften_67 : decode cX11_holdsOften 67 = .ok (.if_icmp .ge 46, 3) := by decide +kernel
theorem dX11_holdsOften_70 : decode cX11_holdsOften 70 = .ok (.iload 7, 2) := by decide +kernel
theorem dX11_holdsOften_72 : decode cX11_holdsOften 72 = .ok (.iconst 4, 1) := by decide +kernel
theorem dX11_holdsOften_73 : decode cX11_holdsOften 73 = .ok (.if_icmp .ge 40, 3) := by decide +kernel
theorem dX11_holdsOften_76 : decode cX11_holdsOften 76 = .ok (.iload_n 3, 1) := by decide +kernel
theorem dX11_holdsOften_77 : decode cX11_holdsOften 77 = .ok (.ldc_w 445, 3) := by decide +kernel
theorem dX11_holdsOften_80 : decode cX11_holdsOften 80 = .ok (.imul, 1) := by decide +kernel
theorem dX11_holdsOften_81 : decode cX11_holdsOften 81 = .ok (.sipush 12345, 3) := by decide +kernel
theorem dX11_holdsOften_84 : decode cX11_holdsOften 84 = .ok (.iadd, 1) := by decide +kernel
theorem dX11_holdsOften_85 : decode cX11_holdsOften 85 = .ok (.istore_n 3, 1) := by decide +kernel
theorem dX11_holdsOften_86 : decode cX11_holdsOften 86 = .ok (.aload_n 0, 1) := by decide +kernel
theorem dX11_holdsOften_87 : decode cX11_holdsOften 87 = .ok (.getfield 50, 3) := by decide +kernel
theorem dX11_holdsOften_90 : decode cX11_holdsOften 90 = .ok (.iload 7, 2) := by decide +kernel
theorem dX11_holdsOften_92 : decode cX11_holdsOften 92 = .ok (.iload_n 3, 1) := by decide +kernel
theorem dX11_holdsOften_93 : decode cX11_holdsOften 93 = .ok (.bipush 16, 2) := by decide +kernel
theorem dX11_holdsOften_95 : decode cX11_holdsOften 95 = .ok (.iushr, 1) := by decide +kernel
theorem dX11_holdsOften_96 : decode cX11_holdsOften 96 = .ok (.iconst 2, 1) := by decide +kernel
theorem dX11_holdsOften_97 : decode cX11_holdsOften 97 = .ok (.iload 6, 2) := by decide +kernel
theorem dX11_holdsOften_99 : decode cX11_holdsOften 99 = .ok (.imul, 1) := by decide +kernel
theorem dX11_holdsOften_100 : decode cX11_holdsOften 100 = .ok (.iconst 1, 1) := by decide +kernel
theorem dX11_holdsOften_101 : decode cX11_holdsOften 101 = .ok (.iadd, 1) := by decide +kernel
theorem dX11_holdsOften_102 : decode cX11_holdsOften 102 = .ok (.irem, 1) := by decide +kernel
theorem dX11_holdsOften_103 : decode cX11_holdsOften 103 = .ok (.iload 6, 2) := by decide +kernel
theorem dX11_holdsOften_105 : decode cX11_holdsOften 105 = .ok (.isub, 1) := by decide +kernel
theorem dX11_holdsOften_106 : decode cX11_holdsOften 106 = .ok (.iastore, 1) := by decide +kernel
theorem dX11_holdsOften_107 : decode cX11_holdsOften 107 = .ok (.iinc 7 1, 3) := by decide +kernel
theorem dX11_holdsOften_110 : decode cX11_holdsOften 110 = .ok (.goto (-49), 3) := by decide +kernel
theorem dX11_holdsOften_113 : decode cX11_holdsOften 113 = .ok (.aload_n 0, 1) := by decide +kernel
theorem dX11_holdsOften_114 : decode cX11_holdsOften 114 = .ok (.getfield 26, 3) := by decide +kernel
theorem dX11_holdsOften_117 : decode cX11_holdsOften 117 = .ok (.aload_n 1, 1) := by decide +kernel
theorem dX11_holdsOften_118 : decode cX11_holdsOften 118 = .ok (.aload_n 0, 1) := by decide +kernel
theorem dX11_holdsOften_119 : decode cX11_holdsOften 119 = .ok (.getfield 50, 3) := by decide +kernel
theorem dX11_holdsOften_122 : decode cX11_holdsOften 122 = .ok (.invokevirtual 446, 3) := by decide +kernel
theorem dX11_holdsOften_125 : decode cX11_holdsOften 125 = .ok (.istore 4, 2) := by decide +kernel
theorem dX11_holdsOften_127 : decode cX11_holdsOften 127 = .ok (.iinc 5 1, 3) := by decide +kernel
theorem dX11_holdsOften_130 : decode cX11_holdsOften 130 = .ok (.goto (-102), 3) := by decide +kernel
theorem dX11_holdsOften_133 : decode cX11_holdsOften 133 = .ok (.iload 4, 2) := by decide +kernel
theorem dX11_holdsOften_135 : decode cX11_holdsOften 135 = .ok (.ireturn, 1) := by decide +kernel
theorem dX11_takesSmaller_0 : decode cX11_takesSmaller 0 = .ok (.iconst 0, 1) := by decide +kernel
theorem dX11_takesSmaller_1 : decode cX11_takesSmaller 1 = .ok (.istore_n 2, 1) := by decide +kernel
theorem dX11_takesSmaller_2 : decode cX11_takesSmaller 2 = .ok (.iload_n 2, 1) := by decide +kernel
theorem dX11_takesSmaller_3 : decode cX11_takesSmaller 3 = .ok (.aload_n 1, 1) := by decide +kernel
theorem dX11_takesSmaller_4 : decode cX11_takesSmaller 4 = .ok (.getfield 146, 3) := by decide +kernel
theorem dX11_takesSmaller_7 : decode cX11_takesSmaller 7 = .ok (.if_icmp .ge 79, 3) := by decide +kernel
theorem dX11_takesSmaller_10 : decode cX11_takesSmaller 10 = .ok (.iload_n 2, 1) := by decide +kernel
theorem dX11_takesSmaller_11 : decode cX11_takesSmaller 11 = .ok (.iconst 4, 1) := by decide +kernel
theorem dX11_takesSmaller_12 : decode cX11_takesSmaller 12 = .ok (.if_icmp .ge 74, 3) := by decide +kernel
theorem dX11_takesSmaller_15 : decode cX11_takesSmaller 15 = .ok (.aload_n 0, 1) := by decide +kernel
theorem dX11_takesSmaller_16 : decode cX11_takesSmaller 16 = .ok (.getfield 50, 3) := by decide +kernel
theorem dX11_takesSmaller_19 : decode cX11_takesSmaller 19 = .ok (.iload_n 2, 1) := by decide +kernel
theorem dX11_takesSmaller_20 : decode cX11_takesSmaller 20 = .ok (.iaload, 1) := by decide +kernel
theorem dX11_takesSmaller_21 : decode cX11_takesSmaller 21 = .ok (.istore_n 3, 1) := by decide +kernel
theorem dX11_takesSmaller_22 : decode cX11_takesSmaller 22 = .ok (.iload_n 3, 1) := by decide +kernel
theorem dX11_takesSmaller_23 : decode cX11_takesSmaller 23 = .ok (.invokestatic 332, 3) := by decide +kernel
theorem dX11_takesSmaller_26 : decode cX11_takesSmaller 26 = .ok (.istore 4, 2) := by decide +kernel
theorem dX11_takesSmaller_28 : decode cX11_takesSmaller 28 = .ok (.iconst 0, 1) := by decide +kernel
theorem dX11_takesSmaller_29 : decode cX11_takesSmaller 29 = .ok (.istore 5, 2) := by decide +kernel
theorem dX11_takesSmaller_31 : decode cX11_takesSmaller 31 = .ok (.iload 5, 2) := by decide +kernel
theorem dX11_takesSmaller_33 : decode cX11_takesSmaller 33 = .ok (.iload 4, 2) := by decide +kernel
theorem dX11_takesSmaller_35 : decode cX11_takesSmaller 35 = .ok (.if_icmp .ge 38, 3) := by decide +kernel
theorem dX11_takesSmaller_38 : decode cX11_takesSmaller 38 = .ok (.aload_n 0, 1) := by decide +kernel
theorem dX11_takesSmaller_39 : decode cX11_takesSmaller 39 = .ok (.getfield 50, 3) := by decide +kernel
theorem dX11_takesSmaller_42 : decode cX11_takesSmaller 42 = .ok (.iload_n 2, 1) := by decide +kernel
theorem dX11_takesSmaller_43 : decode cX11_takesSmaller 43 = .ok (.iload_n 3, 1) := by decide +kernel
theorem dX11_takesSmaller_44 : decode cX11_takesSmaller 44 = .ok (.iload 5, 2) := by decide +kernel
theorem dX11_takesSmaller_46 : decode cX11_takesSmaller 46 = .ok (.invokestatic 335, 3) := by decide +kernel
theorem dX11_takesSmaller_49 : decode cX11_takesSmaller 49 = .ok (.iastore, 1) := by decide +kernel
theorem dX11_takesSmaller_50 : decode cX11_takesSmaller 50 = .ok (.aload_n 0, 1) := by decide +kernel
theorem dX11_takesSmaller_51 : decode cX11_takesSmaller 51 = .ok (.getfield 26, 3) := by decide +kernel
theorem dX11_takesSmaller_54 : decode cX11_takesSmaller 54 = .ok (.aload_n 1, 1) := by decide +kernel
theorem dX11_takesSmaller_55 : decode cX11_takesSmaller 55 = .ok (.aload_n 0, 1) := by decide +kernel
theorem dX11_takesSmaller_56 : decode cX11_takesSmaller 56 = .ok (.getfield 50, 3) := by decide +kernel
theorem dX11_takesSmaller_59 : decode cX11_takesSmaller 59 = .ok (.invokevirtual 446, 3) := by decide +kernel
theorem dX11_takesSmaller_62 : decode cX11_takesSmaller 62 = .ok (.ifCond .ne 5, 3) := by decide +kernel
theorem dX11_takesSmaller_65 : decode cX11_takesSmaller 65 = .ok (.iconst 1, 1) := by decide +kernel
theorem dX11_takesSmaller_66 : decode cX11_takesSmaller 66 = .ok (.ireturn, 1) := by decide +kernel
theorem dX11_takesSmaller_67 : decode cX11_takesSmaller 67 = .ok (.iinc 5 1, 3) := by decide +kernel
theorem dX11_takesSmaller_70 : decode cX11_takesSmaller 70 = .ok (.goto (-39), 3) := by decide +kernel
theorem dX11_takesSmaller_73 : decode cX11_takesSmaller 73 = .ok (.aload_n 0, 1) := by decide +kernel
theorem dX11_takesSmaller_74 : decode cX11_takesSmaller 74 = .ok (.getfield 50, 3) := by decide +kernel
theorem dX11_takesSmaller_77 : decode cX11_takesSmaller 77 = .ok (.iload_n 2, 1) := by decide +kernel
theorem dX11_takesSmaller_78 : decode cX11_takesSmaller 78 = .ok (.iload_n 3, 1) := by decide +kernel
theorem dX11_takesSmaller_79 : decode cX11_takesSmaller 79 = .ok (.iastore, 1) := by decide +kernel
theorem dX11_takesSmaller_80 : decode cX11_takesSmaller 80 = .ok (.iinc 2 1, 3) := by decide +kernel
theorem dX11_takesSmaller_83 : decode cX11_takesSmaller 83 = .ok (.goto (-81), 3) := by decide +kernel
theorem dX11_takesSmaller_86 : decode cX11_takesSmaller 86 = .ok (.iconst 0, 1) := by decide +kernel
theorem dX11_takesSmaller_87 : decode cX11_takesSmaller 87 = .ok (.ireturn, 1) := by decide +kernel
theorem dX11_smallerCount_0 : decode cX11_smallerCount 0 = .ok (.iload_n 0, 1) := by decide +kernel
theorem dX11_smallerCount_1 : decode cX11_smallerCount 1 = .ok (.ifCond .ne 5, 3) := by decide +kernel
theorem dX11_smallerCount_4 : decode cX11_smallerCount 4 = .ok (.iconst 0, 1) := by decide +kernel
theorem dX11_smallerCount_5 : decode cX11_smallerCount 5 = .ok (.ireturn, 1) := by decide +kernel
theorem dX11_smallerCount_6 : decode cX11_smallerCount 6 = .ok (.bipush 63, 2) := by decide +kernel
theorem dX11_smallerCount_8 : decode cX11_smallerCount 8 = .ok (.iload_n 0, 1) := by decide +kernel
theorem dX11_smallerCount_9 : decode cX11_smallerCount 9 = .ok (.i2l, 1) := by decide +kernel
theorem dX11_smallerCount_10 : decode cX11_smallerCount 10 = .ok (.invokestatic 450, 3) := by decide +kernel
theorem dX11_smallerCount_13 : decode cX11_smallerCount 13 = .ok (.invokestatic 420, 3) := by decide +kernel
theorem dX11_smallerCount_16 : decode cX11_smallerCount 16 = .ok (.isub, 1) := by decide +kernel
theorem dX11_smallerCount_17 : decode cX11_smallerCount 17 = .ok (.istore_n 1, 1) := by decide +kernel
theorem dX11_smallerCount_18 : decode cX11_smallerCount 18 = .ok (.iload_n 0, 1) := by decide +kernel
theorem dX11_smallerCount_19 : decode cX11_smallerCount 19 = .ok (.ifCond .ge 7, 3) := by decide +kernel
theorem dX11_smallerCount_22 : decode cX11_smallerCount 22 = .ok (.iconst 2, 1) := by decide +kernel
theorem dX11_smallerCount_23 : decode cX11_smallerCount 23 = .ok (.goto 4, 3) := by decide +kernel
theorem dX11_smallerCount_26 : decode cX11_smallerCount 26 = .ok (.iconst 1, 1) := by decide +kernel
theorem dX11_smallerCount_27 : decode cX11_smallerCount 27 = .ok (.iload_n 1, 1) := by decide +kernel
theorem dX11_smallerCount_28 : decode cX11_smallerCount 28 = .ok (.iadd, 1) := by decide +kernel
theorem dX11_smallerCount_29 : decode cX11_smallerCount 29 = .ok (.ireturn, 1) := by decide +kernel
theorem dX11_smallerNumber_0 : decode cX11_smallerNumber 0 = .ok (.iload_n 1, 1) := by decide +kernel
theorem dX11_smallerNumber_1 : decode cX11_smallerNumber 1 = .ok (.ifCond .ne 5, 3) := by decide +kernel
theorem dX11_smallerNumber_4 : decode cX11_smallerNumber 4 = .ok (.iconst 0, 1) := by decide +kernel
theorem dX11_smallerNumber_5 : decode cX11_smallerNumber 5 = .ok (.ireturn, 1) := by decide +kernel
theorem dX11_smallerNumber_6 : decode cX11_smallerNumber 6 = .ok (.iload_n 0, 1) := by decide +kernel
theorem dX11_smallerNumber_7 : decode cX11_smallerNumber 7 = .ok (.ifCond .ge 11, 3) := by decide +kernel
theorem dX11_smallerNumber_10 : decode cX11_smallerNumber 10 = .ok (.iload_n 1, 1) := by decide +kernel
theorem dX11_smallerNumber_11 : decode cX11_smallerNumber 11 = .ok (.iconst 1, 1) := by decide +kernel
theorem dX11_smallerNumber_12 : decode cX11_smallerNumber 12 = .ok (.if_icmp .ne 6, 3) := by decide +kernel
theorem dX11_smallerNumber_15 : decode cX11_smallerNumber 15 = .ok (.iload_n 0, 1) := by decide +kernel
theorem dX11_smallerNumber_16 : decode cX11_smallerNumber 16 = .ok (.ineg, 1) := by decide +kernel
theorem dX11_smallerNumber_17 : decode cX11_smallerNumber 17 = .ok (.ireturn, 1) := by decide +kernel
theorem dX11_smallerNumber_18 : decode cX11_smallerNumber 18 = .ok (.iload_n 0, 1) := by decide +kernel
theorem dX11_smallerNumber_19 : decode cX11_smallerNumber 19 = .ok (.ifCond .ge 9, 3) := by decide +kernel
theorem dX11_smallerNumber_22 : decode cX11_smallerNumber 22 = .ok (.iload_n 1, 1) := by decide +kernel
theorem dX11_smallerNumber_23 : decode cX11_smallerNumber 23 = .ok (.iconst 1, 1) := by decide +kernel
theorem dX11_smallerNumber_24 : decode cX11_smallerNumber 24 = .ok (.isub, 1) := by decide +kernel
theorem dX11_smallerNumber_25 : decode cX11_smallerNumber 25 = .ok (.goto 4, 3) := by decide +kernel
theorem dX11_smallerNumber_28 : decode cX11_smallerNumber 28 = .ok (.iload_n 1, 1) := by decide +kernel
theorem dX11_smallerNumber_29 : decode cX11_smallerNumber 29 = .ok (.istore_n 2, 1) := by decide +kernel
theorem dX11_smallerNumber_30 : decode cX11_smallerNumber 30 = .ok (.iload_n 0, 1) := by decide +kernel
theorem dX11_smallerNumber_31 : decode cX11_smallerNumber 31 = .ok (.i2l, 1) := by decide +kernel
theorem dX11_smallerNumber_32 : decode cX11_smallerNumber 32 = .ok (.iload_n 0, 1) := by decide +kernel
theorem dX11_smallerNumber_33 : decode cX11_smallerNumber 33 = .ok (.i2l, 1) := by decide +kernel
theorem dX11_smallerNumber_34 : decode cX11_smallerNumber 34 = .ok (.lconst 1, 1) := by decide +kernel
theorem dX11_smallerNumber_35 : decode cX11_smallerNumber 35 = .ok (.iload_n 2, 1) := by decide +kernel
theorem dX11_smallerNumber_36 : decode cX11_smallerNumber 36 = .ok (.lshl, 1) := by decide +kernel
theorem dX11_smallerNumber_37 : decode cX11_smallerNumber 37 = .ok (.ldiv, 1) := by decide +kernel
theorem dX11_smallerNumber_38 : decode cX11_smallerNumber 38 = .ok (.lsub, 1) := by decide +kernel
theorem dX11_smallerNumber_39 : decode cX11_smallerNumber 39 = .ok (.l2i, 1) := by decide +kernel
theorem dX11_smallerNumber_40 : decode cX11_smallerNumber 40 = .ok (.ireturn, 1) := by decide +kernel
theorem dX11_lookAtRows_0 : decode cX11_lookAtRows 0 = .ok (.aload_n 0, 1) := by decide +kernel
theorem dX11_lookAtRows_1 : decode cX11_lookAtRows 1 = .ok (.getfield 46, 3) := by decide +kernel
theorem dX11_lookAtRows_4 : decode cX11_lookAtRows 4 = .ok (.invokevirtual 454, 3) := by decide +kernel
theorem dX11_lookAtRows_7 : decode cX11_lookAtRows 7 = .ok (.iconst 1, 1) := by decide +kernel
theorem dX11_lookAtRows_8 : decode cX11_lookAtRows 8 = .ok (.istore_n 2, 1) := by decide +kernel
theorem dX11_lookAtRows_9 : decode cX11_lookAtRows 9 = .ok (.iload_n 2, 1) := by decide +kernel
theorem dX11_lookAtRows_10 : decode cX11_lookAtRows 10 = .ok (.sipush 400, 3) := by decide +kernel
theorem dX11_lookAtRows_13 : decode cX11_lookAtRows 13 = .ok (.if_icmp .gt 77, 3) := by decide +kernel
theorem dX11_lookAtRows_16 : decode cX11_lookAtRows 16 = .ok (.aload_n 0, 1) := by decide +kernel
theorem dX11_lookAtRows_17 : decode cX11_lookAtRows 17 = .ok (.getfield 46, 3) := by decide +kernel
theorem dX11_lookAtRows_20 : decode cX11_lookAtRows 20 = .ok (.invokevirtual 456, 3) := by decide +kernel
theorem dX11_lookAtRows_23 : decode cX11_lookAtRows 23 = .ok (.aload_n 0, 1) := by decide +kernel
theorem dX11_lookAtRows_24 : decode cX11_lookAtRows 24 = .ok (.getfield 26, 3) := by decide +kernel
theorem dX11_lookAtRows_27 : decode cX11_lookAtRows 27 = .ok (.invokevirtual 426, 3) := by decide +kernel
theorem dX11_lookAtRows_30 : decode cX11_lookAtRows 30 = .ok (.aload_n 0, 1) := by decide +kernel
theorem dX11_lookAtRows_31 : decode cX11_lookAtRows 31 = .ok (.getfield 26, 3) := by decide +kernel
theorem dX11_lookAtRows_34 : decode cX11_lookAtRows 34 = .ok (.aload_n 1, 1) := by decide +kernel
theorem dX11_lookAtRows_35 : decode cX11_lookAtRows 35 = .ok (.invokevirtual 432, 3) := by decide +kernel
theorem dX11_lookAtRows_38 : decode cX11_lookAtRows 38 = .ok (.aload_n 0, 1) := by decide +kernel
theorem dX11_lookAtRows_39 : decode cX11_lookAtRows 39 = .ok (.getfield 26, 3) := by decide +kernel
theorem dX11_lookAtRows_42 : decode cX11_lookAtRows 42 = .ok (.invokevirtual 294, 3) := by decide +kernel
theorem dX11_lookAtRows_45 : decode cX11_lookAtRows 45 = .ok (.ifCond .eq 6, 3) := by decide +kernel
theorem dX11_lookAtRows_48 : decode cX11_lookAtRows 48 = .ok (.bipush (-4), 2) := by decide +kernel
theorem dX11_lookAtRows_50 : decode cX11_lookAtRows 50 = .ok (.ireturn, 1) := by decide +kernel
theorem dX11_lookAtRows_51 : decode cX11_lookAtRows 51 = .ok (.aload_n 0, 1) := by decide +kernel
theorem dX11_lookAtRows_52 : decode cX11_lookAtRows 52 = .ok (.getfield 26, 3) := by decide +kernel
theorem dX11_lookAtRows_55 : decode cX11_lookAtRows 55 = .ok (.getfield 381, 3) := by decide +kernel
theorem dX11_lookAtRows_58 : decode cX11_lookAtRows 58 = .ok (.getfield 384, 3) := by decide +kernel
theorem dX11_lookAtRows_61 : decode cX11_lookAtRows 61 = .ok (.iconst 1, 1) := by decide +kernel
theorem dX11_lookAtRows_62 : decode cX11_lookAtRows 62 = .ok (.if_icmp .ne 10, 3) := by decide +kernel
theorem dX11_lookAtRows_65 : decode cX11_lookAtRows 65 = .ok (.aload_n 0, 1) := by decide +kernel
theorem dX11_lookAtRows_66 : decode cX11_lookAtRows 66 = .ok (.getfield 46, 3) := by decide +kernel
theorem dX11_lookAtRows_69 : decode cX11_lookAtRows 69 = .ok (.invokevirtual 459, 3) := by decide +kernel
theorem dX11_lookAtRows_72 : decode cX11_lookAtRows 72 = .ok (.aload_n 0, 1) := by decide +kernel
theorem dX11_lookAtRows_73 : decode cX11_lookAtRows 73 = .ok (.getfield 46, 3) := by decide +kernel
theorem dX11_lookAtRows_76 : decode cX11_lookAtRows 76 = .ok (.invokevirtual 462, 3) := by decide +kernel
theorem dX11_lookAtRows_79 : decode cX11_lookAtRows 79 = .ok (.ifCond .ne 5, 3) := by decide +kernel
theorem dX11_lookAtRows_82 : decode cX11_lookAtRows 82 = .ok (.iload_n 2, 1) := by decide +kernel
theorem dX11_lookAtRows_83 : decode cX11_lookAtRows 83 = .ok (.ireturn, 1) := by decide +kernel
theorem dX11_lookAtRows_84 : decode cX11_lookAtRows 84 = .ok (.iinc 2 1, 3) := by decide +kernel
theorem dX11_lookAtRows_87 : decode cX11_lookAtRows 87 = .ok (.goto (-78), 3) := by decide +kernel
theorem dX11_lookAtRows_90 : decode cX11_lookAtRows 90 = .ok (.bipush (-4), 2) := by decide +kernel
theorem dX11_lookAtRows_92 : decode cX11_lookAtRows 92 = .ok (.ireturn, 1) := by decide +kernel
theorem dX11_passesAlone_0 : decode cX11_passesAlone 0 = .ok (.aload_n 0, 1) := by decide +kernel
theorem dX11_passesAlone_1 : decode cX11_passesAlone 1 = .ok (.getfield 26, 3) := by decide +kernel
theorem dX11_passesAlone_4 : decode cX11_passesAlone 4 = .ok (.invokevirtual 426, 3) := by decide +kernel
theorem dX11_passesAlone_7 : decode cX11_passesAlone 7 = .ok (.aload_n 0, 1) := by decide +kernel
theorem dX11_passesAlone_8 : decode cX11_passesAlone 8 = .ok (.getfield 26, 3) := by decide +kernel
theorem dX11_passesAlone_11 : decode cX11_passesAlone 11 = .ok (.aload_n 1, 1) := by decide +kernel
theorem dX11_passesAlone_12 : decode cX11_passesAlone 12 = .ok (.invokevirtual 432, 3) := by decide +kernel
theorem dX11_passesAlone_15 : decode cX11_passesAlone 15 = .ok (.aload_n 0, 1) := by decide +kernel
theorem dX11_passesAlone_16 : decode cX11_passesAlone 16 = .ok (.getfield 26, 3) := by decide +kernel
theorem dX11_passesAlone_19 : decode cX11_passesAlone 19 = .ok (.getfield 381, 3) := by decide +kernel
theorem dX11_passesAlone_22 : decode cX11_passesAlone 22 = .ok (.getfield 384, 3) := by decide +kernel
theorem dX11_passesAlone_25 : decode cX11_passesAlone 25 = .ok (.iconst 1, 1) := by decide +kernel
theorem dX11_passesAlone_26 : decode cX11_passesAlone 26 = .ok (.if_icmp .ne 7, 3) := by decide +kernel
theorem dX11_passesAlone_29 : decode cX11_passesAlone 29 = .ok (.iconst 1, 1) := by decide +kernel
theorem dX11_passesAlone_30 : decode cX11_passesAlone 30 = .ok (.goto 4, 3) := by decide +kernel
theorem dX11_passesAlone_33 : decode cX11_passesAlone 33 = .ok (.iconst 0, 1) := by decide +kernel
theorem dX11_passesAlone_34 : decode cX11_passesAlone 34 = .ok (.ireturn, 1) := by decide +kernel
theorem dX11_placeInOrder_0 : decode cX11_placeInOrder 0 = .ok (.iconst 0, 1) := by decide +kernel
theorem dX11_placeInOrder_1 : decode cX11_placeInOrder 1 = .ok (.istore_n 2, 1) := by decide +kernel
theorem dX11_placeInOrder_2 : decode cX11_placeInOrder 2 = .ok (.iconst 0, 1) := by decide +kernel
theorem dX11_placeInOrder_3 : decode cX11_placeInOrder 3 = .ok (.istore_n 3, 1) := by decide +kernel
theorem dX11_placeInOrder_4 : decode cX11_placeInOrder 4 = .ok (.iload_n 3, 1) := by decide +kernel
theorem dX11_placeInOrder_5 : decode cX11_placeInOrder 5 = .ok (.aload_n 0, 1) := by decide +kernel
theorem dX11_placeInOrder_6 : decode cX11_placeInOrder 6 = .ok (.getfield 189, 3) := by decide +kernel
theorem dX11_placeInOrder_9 : decode cX11_placeInOrder 9 = .ok (.arraylength, 1) := by decide +kernel
theorem dX11_placeInOrder_10 : decode cX11_placeInOrder 10 = .ok (.if_icmp .ge 21, 3) := by decide +kernel
theorem dX11_placeInOrder_13 : decode cX11_placeInOrder 13 = .ok (.aload_n 0, 1) := by decide +kernel
theorem dX11_placeInOrder_14 : decode cX11_placeInOrder 14 = .ok (.getfield 189, 3) := by decide +kernel
theorem dX11_placeInOrder_17 : decode cX11_placeInOrder 17 = .ok (.iload_n 3, 1) := by decide +kernel
theorem dX11_placeInOrder_18 : decode cX11_placeInOrder 18 = .ok (.iaload, 1) := by decide +kernel
theorem dX11_placeInOrder_19 : decode cX11_placeInOrder 19 = .ok (.iload_n 1, 1) := by decide +kernel
theorem dX11_placeInOrder_20 : decode cX11_placeInOrder 20 = .ok (.if_icmp .ne 5, 3) := by decide +kernel
theorem dX11_placeInOrder_23 : decode cX11_placeInOrder 23 = .ok (.iload_n 3, 1) := by decide +kernel
theorem dX11_placeInOrder_24 : decode cX11_placeInOrder 24 = .ok (.istore_n 2, 1) := by decide +kernel
theorem dX11_placeInOrder_25 : decode cX11_placeInOrder 25 = .ok (.iinc 3 1, 3) := by decide +kernel
theorem dX11_placeInOrder_28 : decode cX11_placeInOrder 28 = .ok (.goto (-24), 3) := by decide +kernel
theorem dX11_placeInOrder_31 : decode cX11_placeInOrder 31 = .ok (.iload_n 2, 1) := by decide +kernel
theorem dX11_placeInOrder_32 : decode cX11_placeInOrder 32 = .ok (.ireturn, 1) := by decide +kernel
theorem dX12_init_0 : decode cX12_init 0 = .ok (.aload_n 0, 1) := by decide +kernel
theorem dX12_init_1 : decode cX12_init 1 = .ok (.invokespecial 1, 3) := by decide +kernel
theorem dX12_init_4 : decode cX12_init 4 = .ok (.aload_n 0, 1) := by decide +kernel
theorem dX12_init_5 : decode cX12_init 5 = .ok (.sipush 3000, 3) := by decide +kernel
theorem dX12_init_8 : decode cX12_init 8 = .ok (.newarray .byte, 2) := by decide +kernel
theorem dX12_init_10 : decode cX12_init 10 = .ok (.putfield 7, 3) := by decide +kernel
theorem dX12_init_13 : decode cX12_init 13 = .ok (.aload_n 0, 1) := by decide +kernel
theorem dX12_init_14 : decode cX12_init 14 = .ok (.bipush 8, 2) := by decide +kernel
theorem dX12_init_16 : decode cX12_init 16 = .ok (.newarray .int, 2) := by decide +kernel
theorem dX12_init_18 : decode cX12_init 18 = .ok (.putfield 13, 3) := by decide +kernel
theorem dX12_init_21 : decode cX12_init 21 = .ok (.aload_n 0, 1) := by decide +kernel
theorem dX12_init_22 : decode cX12_init 22 = .ok (.bipush 64, 2) := by decide +kernel
theorem dX12_init_24 : decode cX12_init 24 = .ok (.newarray .long, 2) := by decide +kernel
theorem dX12_init_26 : decode cX12_init 26 = .ok (.putfield 17, 3) := by decide +kernel
theorem dX12_init_29 : decode cX12_init 29 = .ok (.aload_n 0, 1) := by decide +kernel
theorem dX12_init_30 : decode cX12_init 30 = .ok (.bipush 64, 2) := by decide +kernel
theorem dX12_init_32 : decode cX12_init 32 = .ok (.newarray .int, 2) := by decide +kernel
theorem dX12_init_34 : decode cX12_init 34 = .ok (.putfield 21, 3) := by decide +kernel
theorem dX12_init_37 : decode cX12_init 37 = .ok (.aload_n 0, 1) := by decide +kernel
theorem dX12_init_38 : decode cX12_init 38 = .ok (.bipush 64, 2) := by decide +kernel
theorem dX12_init_40 : decode cX12_init 40 = .ok (.newarray .int, 2) := by decide +kernel
theorem dX12_init_42 : decode cX12_init 42 = .ok (.putfield 24, 3) := by decide +kernel
theorem dX12_init_45 : decode cX12_init 45 = .ok (.aload_n 0, 1) := by decide +kernel
theorem dX12_init_46 : decode cX12_init 46 = .ok (.sipush 192, 3) := by decide +kernel
theorem dX12_init_49 : decode cX12_init 49 = .ok (.newarray .int, 2) := by decide +kernel
theorem dX12_init_51 : decode cX12_init 51 = .ok (.putfield 27, 3) := by decide +kernel
theorem dX12_init_54 : decode cX12_init 54 = .ok (.aload_n 0, 1) := by decide +kernel
theorem dX12_init_55 : decode cX12_init 55 = .ok (.bipush 64, 2) := by decide +kernel
theorem dX12_init_57 : decode cX12_init 57 = .ok (.newarray .int, 2) := by decide +kernel
theorem dX12_init_59 : decode cX12_init 59 = .ok (.putfield 30, 3) := by decide +kernel
theorem dX12_init_62 : decode cX12_init 62 = .ok (.aload_n 0, 1) := by decide +kernel
theorem dX12_init_63 : decode cX12_init 63 = .ok (.sipush 192, 3) := by decide +kernel
theorem dX12_init_66 : decode cX12_init 66 = .ok (.newarray .int, 2) := by decide +kernel
theorem dX12_init_68 : decode cX12_init 68 = .ok (.putfield 33, 3) := by decide +kernel
theorem dX12_init_71 : decode cX12_init 71 = .ok (.aload_n 0, 1) := by decide +kernel
theorem dX12_init_72 : decode cX12_init 72 = .ok (.bipush 8, 2) := by decide +kernel
theorem dX12_init_74 : decode cX12_init 74 = .ok (.newarray .int, 2) := by decide +kernel
theorem dX12_init_76 : decode cX12_init 76 = .ok (.putfield 36, 3) := by decide +kernel
theorem dX12_init_79 : decode cX12_init 79 = .ok (.aload_n 0, 1) := by decide +kernel
theorem dX12_init_80 : decode cX12_init 80 = .ok (.sipush 768, 3) := by decide +kernel
theorem dX12_init_83 : decode cX12_init 83 = .ok (.newarray .long, 2) := by decide +kernel
theorem dX12_init_85 : decode cX12_init 85 = .ok (.putfield 39, 3) := by decide +kernel
theorem dX12_init_88 : decode cX12_init 88 = .ok (.aload_n 0, 1) := by decide +kernel
theorem dX12_init_89 : decode cX12_init 89 = .ok (.sipush 768, 3) := by decide +kernel
theorem dX12_init_92 : decode cX12_init 92 = .ok (.newarray .int, 2) := by decide +kernel
theorem dX12_init_94 : decode cX12_init 94 = .ok (.putfield 42, 3) := by decide +kernel
theorem dX12_init_97 : decode cX12_init 97 = .ok (.aload_n 0, 1) := by decide +kernel
theorem dX12_init_98 : decode cX12_init 98 = .ok (.sipush 768, 3) := by decide +kernel
theorem dX12_init_101 : decode cX12_init 101 = .ok (.newarray .int, 2) := by decide +kernel
theorem dX12_init_103 : decode cX12_init 103 = .ok (.putfield 45, 3) := by decide +kernel
theorem dX12_init_106 : decode cX12_init 106 = .ok (.aload_n 0, 1) := by decide +kernel
theorem dX12_init_107 : decode cX12_init 107 = .ok (.sipush 768, 3) := by decide +kernel
theorem dX12_init_110 : decode cX12_init 110 = .ok (.newarray .boolean, 2) := by decide +kernel
theorem dX12_init_112 : decode cX12_init 112 = .ok (.putfield 48, 3) := by decide +kernel
theorem dX12_init_115 : decode cX12_init 115 = .ok (.aload_n 0, 1) := by decide +kernel
theorem dX12_init_116 : decode cX12_init 116 = .ok (.sipush 768, 3) := by decide +kernel
theorem dX12_init_119 : decode cX12_init 119 = .ok (.newarray .int, 2) := by decide +kernel
theorem dX12_init_121 : decode cX12_init 121 = .ok (.putfield 52, 3) := by decide +kernel
theorem dX12_init_124 : decode cX12_init 124 = .ok (.aload_n 0, 1) := by decide +kernel
theorem dX12_init_125 : decode cX12_init 125 = .ok (.sipush 768, 3) := by decide +kernel
theorem dX12_init_128 : decode cX12_init 128 = .ok (.newarray .int, 2) := by decide +kernel
theorem dX12_init_130 : decode cX12_init 130 = .ok (.putfield 55, 3) := by decide +kernel
theorem dX12_init_133 : decode cX12_init 133 = .ok (.aload_n 0, 1) := by decide +kernel
theorem dX12_init_134 : decode cX12_init 134 = .ok (.bipush 8, 2) := by decide +kernel
theorem dX12_init_136 : decode cX12_init 136 = .ok (.newarray .int, 2) := by decide +kernel
theorem dX12_init_138 : decode cX12_init 138 = .ok (.putfield 58, 3) := by decide +kernel
theorem dX12_init_141 : decode cX12_init 141 = .ok (.aload_n 0, 1) := by decide +kernel
theorem dX12_init_142 : decode cX12_init 142 = .ok (.sipush 128, 3) := by decide +kernel
theorem dX12_init_145 : decode cX12_init 145 = .ok (.newarray .long, 2) := by decide +kernel
theorem dX12_init_147 : decode cX12_init 147 = .ok (.putfield 61, 3) := by decide +kernel
theorem dX12_init_150 : decode cX12_init 150 = .ok (.aload_n 0, 1) := by decide +kernel
theorem dX12_init_151 : decode cX12_init 151 = .ok (.sipush 128, 3) := by decide +kernel
theorem dX12_init_154 : decode cX12_init 154 = .ok (.newarray .int, 2) := by decide +kernel
theorem dX12_init_156 : decode cX12_init 156 = .ok (.putfield 64, 3) := by decide +kernel
theorem dX12_init_159 : decode cX12_init 159 = .ok (.aload_n 0, 1) := by decide +kernel
theorem dX12_init_160 : decode cX12_init 160 = .ok (.sipush 128, 3) := by decide +kernel
theorem dX12_init_163 : decode cX12_init 163 = .ok (.newarray .int, 2) := by decide +kernel
theorem dX12_init_165 : decode cX12_init 165 = .ok (.putfield 67, 3) := by decide +kernel
theorem dX12_init_168 : decode cX12_init 168 = .ok (.aload_n 0, 1) := by decide +kernel
theorem dX12_init_169 : decode cX12_init 169 = .ok (.sipush 128, 3) := by decide +kernel
theorem dX12_init_172 : decode cX12_init 172 = .ok (.newarray .int, 2) := by decide +kernel
theorem dX12_init_174 : decode cX12_init 174 = .ok (.putfield 70, 3) := by decide +kernel
theorem dX12_init_177 : decode cX12_init 177 = .ok (.aload_n 0, 1) := by decide +kernel
theorem dX12_init_178 : decode cX12_init 178 = .ok (.sipush 128, 3) := by decide +kernel
theorem dX12_init_181 : decode cX12_init 181 = .ok (.newarray .boolean, 2) := by decide +kernel
theorem dX12_init_183 : decode cX12_init 183 = .ok (.putfield 73, 3) := by decide +kernel
theorem dX12_init_186 : decode cX12_init 186 = .ok (.aload_n 0, 1) := by decide +kernel
theorem dX12_init_187 : decode cX12_init 187 = .ok (.sipush 128, 3) := by decide +kernel
theorem dX12_init_190 : decode cX12_init 190 = .ok (.newarray .int, 2) := by decide +kernel
theorem dX12_init_192 : decode cX12_init 192 = .ok (.putfield 76, 3) := by decide +kernel
theorem dX12_init_195 : decode cX12_init 195 = .ok (.aload_n 0, 1) := by decide +kernel
theorem dX12_init_196 : decode cX12_init 196 = .ok (.sipush 128, 3) := by decide +kernel
theorem dX12_init_199 : decode cX12_init 199 = .ok (.newarray .int, 2) := by decide +kernel
theorem dX12_init_201 : decode cX12_init 201 = .ok (.putfield 79, 3) := by decide +kernel
theorem dX12_init_204 : decode cX12_init 204 = .ok (.aload_n 0, 1) := by decide +kernel
theorem dX12_init_205 : decode cX12_init 205 = .ok (.bipush 8, 2) := by decide +kernel
theorem dX12_init_207 : decode cX12_init 207 = .ok (.newarray .int, 2) := by decide +kernel
theorem dX12_init_209 : decode cX12_init 209 = .ok (.putfield 82, 3) := by decide +kernel
theorem dX12_init_212 : decode cX12_init 212 = .ok (.aload_n 0, 1) := by decide +kernel
theorem dX12_init_213 : decode cX12_init 213 = .ok (.bipush 48, 2) := by decide +kernel
theorem dX12_init_215 : decode cX12_init 215 = .ok (.newarray .long, 2) := by decide +kernel
theorem dX12_init_217 : decode cX12_init 217 = .ok (.putfield 85, 3) := by decide +kernel
theorem dX12_init_220 : decode cX12_init 220 = .ok (.aload_n 0, 1) := by decide +kernel
theorem dX12_init_221 : decode cX12_init 221 = .ok (.bipush 48, 2) := by decide +kernel
theorem dX12_init_223 : decode cX12_init 223 = .ok (.newarray .int, 2) := by decide +kernel
theorem dX12_init_225 : decode cX12_init 225 = .ok (.putfield 88, 3) := by decide +kernel
theorem dX12_init_228 : decode cX12_init 228 = .ok (.aload_n 0, 1) := by decide +kernel
theorem dX12_init_229 : decode cX12_init 229 = .ok (.bipush 48, 2) := by decide +kernel
theorem dX12_init_231 : decode cX12_init 231 = .ok (.newarray .int, 2) := by decide +kernel
theorem dX12_init_233 : decode cX12_init 233 = .ok (.putfield 91, 3) := by decide +kernel
theorem dX12_init_236 : decode cX12_init 236 = .ok (.aload_n 0, 1) := by decide +kernel
theorem dX12_init_237 : decode cX12_init 237 = .ok (.bipush 8, 2) := by decide +kernel
theorem dX12_init_239 : decode cX12_init 239 = .ok (.newarray .int, 2) := by decide +kernel
theorem dX12_init_241 : decode cX12_init 241 = .ok (.putfield 94, 3) := by decide +kernel
theorem dX12_init_244 : decode cX12_init 244 = .ok (.aload_n 0, 1) := by decide +kernel
theorem dX12_init_245 : decode cX12_init 245 = .ok (.sipush 8000, 3) := by decide +kernel
theorem dX12_init_248 : decode cX12_init 248 = .ok (.newarray .byte, 2) := by decide +kernel
theorem dX12_init_250 : decode cX12_init 250 = .ok (.putfield 97, 3) := by decide +kernel
theorem dX12_init_253 : decode cX12_init 253 = .ok (.aload_n 0, 1) := by decide +kernel
theorem dX12_init_254 : decode cX12_init 254 = .ok (.sipush 8000, 3) := by decide +kernel
theorem dX12_init_257 : decode cX12_init 257 = .ok (.newarray .int, 2) := by decide +kernel
theorem dX12_init_259 : decode cX12_init 259 = .ok (.putfield 100, 3) := by decide +kernel
theorem dX12_init_262 : decode cX12_init 262 = .ok (.aload_n 0, 1) := by decide +kernel
theorem dX12_init_263 : decode cX12_init 263 = .ok (.sipush 8000, 3) := by decide +kernel
theorem dX12_init_266 : decode cX12_init 266 = .ok (.newarray .byte, 2) := by decide +kernel
theorem dX12_init_268 : decode cX12_init 268 = .ok (.putfield 103, 3) := by decide +kernel
theorem dX12_init_271 : decode cX12_init 271 = .ok (.aload_n 0, 1) := by decide +kernel
theorem dX12_init_272 : decode cX12_init 272 = .ok (.bipush 8, 2) := by decide +kernel
theorem dX12_init_274 : decode cX12_init 274 = .ok (.newarray .int, 2) := by decide +kernel
theorem dX12_init_276 : decode cX12_init 276 = .ok (.putfield 106, 3) := by decide +kernel
theorem dX12_init_279 : decode cX12_init 279 = .ok (.aload_n 0, 1) := by decide +kernel
theorem dX12_init_280 : decode cX12_init 280 = .ok (.sipush 8000, 3) := by decide +kernel
theorem dX12_init_283 : decode cX12_init 283 = .ok (.newarray .short, 2) := by decide +kernel
theorem dX12_init_285 : decode cX12_init 285 = .ok (.putfield 109, 3) := by decide +kernel
theorem dX12_init_288 : decode cX12_init 288 = .ok (.aload_n 0, 1) := by decide +kernel
theorem dX12_init_289 : decode cX12_init 289 = .ok (.bipush 28, 2) := by decide +kernel
theorem dX12_init_291 : decode cX12_init 291 = .ok (.newarray .long, 2) := by decide +kernel
theorem dX12_init_293 : decode cX12_init 293 = .ok (.dup, 1) := by decide +kernel
theorem dX12_init_294 : decode cX12_init 294 = .ok (.iconst 0, 1) := by decide +kernel
theorem dX12_init_295 : decode cX12_init 295 = .ok (.ldc 113, 2) := by decide +kernel
theorem dX12_init_297 : decode cX12_init 297 = .ok (.invokestatic 115, 3) := by decide +kernel
theorem dX12_init_300 : decode cX12_init 300 = .ok (.lastore, 1) := by decide +kernel
theorem dX12_init_301 : decode cX12_init 301 = .ok (.dup, 1) := by decide +kernel
theorem dX12_init_302 : decode cX12_init 302 = .ok (.iconst 1, 1) := by decide +kernel
theorem dX12_init_303 : decode cX12_init 303 = .ok (.ldc 119, 2) := by decide +kernel
theorem dX12_init_305 : decode cX12_init 305 = .ok (.invokestatic 115, 3) := by decide +kernel
theorem dX12_init_308 : decode cX12_init 308 = .ok (.lastore, 1) := by decide +kernel
theorem dX12_init_309 : decode cX12_init 309 = .ok (.dup, 1) := by decide +kernel
theorem dX12_init_310 : decode cX12_init 310 = .ok (.iconst 2, 1) := by decide +kernel
theorem dX12_init_311 : decode cX12_init 311 = .ok (.ldc 121, 2) := by decide +kernel
theorem dX12_init_313 : decode cX12_init 313 = .ok (.invokestatic 115, 3) := by decide +kernel
theorem dX12_init_316 : decode cX12_init 316 = .ok (.lastore, 1) := by decide +kernel
theorem dX12_init_317 : decode cX12_init 317 = .ok (.dup, 1) := by decide +kernel
theorem dX12_init_318 : decode cX12_init 318 = .ok (.iconst 3, 1) := by decide +kernel
theorem dX12_init_319 : decode cX12_init 319 = .ok (.ldc 123, 2) := by decide +kernel
theorem dX12_init_321 : decode cX12_init 321 = .ok (.invokestatic 115, 3) := by decide +kernel
theorem dX12_init_324 : decode cX12_init 324 = .ok (.lastore, 1) := by decide +kernel
theorem dX12_init_325 : decode cX12_init 325 = .ok (.dup, 1) := by decide +kernel
theorem dX12_init_326 : decode cX12_init 326 = .ok (.iconst 4, 1) := by decide +kernel
theorem dX12_init_327 : decode cX12_init 327 = .ok (.ldc 125, 2) := by decide +kernel
theorem dX12_init_329 : decode cX12_init 329 = .ok (.invokestatic 115, 3) := by decide +kernel
theorem dX12_init_332 : decode cX12_init 332 = .ok (.lastore, 1) := by decide +kernel
theorem dX12_init_333 : decode cX12_init 333 = .ok (.dup, 1) := by decide +kernel
theorem dX12_init_334 : decode cX12_init 334 = .ok (.iconst 5, 1) := by decide +kernel
theorem dX12_init_335 : decode cX12_init 335 = .ok (.ldc 127, 2) := by decide +kernel
theorem dX12_init_337 : decode cX12_init 337 = .ok (.invokestatic 115, 3) := by decide +kernel
theorem dX12_init_340 : decode cX12_init 340 = .ok (.lastore, 1) := by decide +kernel
theorem dX12_init_341 : decode cX12_init 341 = .ok (.dup, 1) := by decide +kernel
theorem dX12_init_342 : decode cX12_init 342 = .ok (.bipush 6, 2) := by decide +kernel
theorem dX12_init_344 : decode cX12_init 344 = .ok (.ldc 129, 2) := by decide +kernel
theorem dX12_init_346 : decode cX12_init 346 = .ok (.invokestatic 115, 3) := by decide +kernel
theorem dX12_init_349 : decode cX12_init 349 = .ok (.lastore, 1) := by decide +kernel
theorem dX12_init_350 : decode cX12_init 350 = .ok (.dup, 1) := by decide +kernel
theorem dX12_init_351 : decode cX12_init 351 = .ok (.bipush 7, 2) := by decide +kernel
theorem dX12_init_353 : decode cX12_init 353 = .ok (.ldc 131, 2) := by decide +kernel
theorem dX12_init_355 : decode cX12_init 355 = .ok (.invokestatic 115, 3) := by decide +kernel
theorem dX12_init_358 : decode cX12_init 358 = .ok (.lastore, 1) := by decide +kernel
theorem dX12_init_359 : decode cX12_init 359 = .ok (.dup, 1) := by decide +kernel
theorem dX12_init_360 : decode cX12_init 360 = .ok (.bipush 8, 2) := by decide +kernel
theorem dX12_init_362 : decode cX12_init 362 = .ok (.ldc 133, 2) := by decide +kernel
theorem dX12_init_364 : decode cX12_init 364 = .ok (.invokestatic 115, 3) := by decide +kernel
theorem dX12_init_367 : decode cX12_init 367 = .ok (.lastore, 1) := by decide +kernel
theorem dX12_init_368 : decode cX12_init 368 = .ok (.dup, 1) := by decide +kernel
theorem dX12_init_369 : decode cX12_init 369 = .ok (.bipush 9, 2) := by decide +kernel
theorem dX12_init_371 : decode cX12_init 371 = .ok (.ldc 135, 2) := by decide +kernel
theorem dX12_init_373 : decode cX12_init 373 = .ok (.invokestatic 115, 3) := by decide +kernel
theorem dX12_init_376 : decode cX12_init 376 = .ok (.lastore, 1) := by decide +kernel
theorem dX12_init_377 : decode cX12_init 377 = .ok (.dup, 1) := by decide +kernel
theorem dX12_init_378 : decode cX12_init 378 = .ok (.bipush 10, 2) := by decide +kernel
theorem dX12_init_380 : decode cX12_init 380 = .ok (.ldc 137, 2) := by decide +kernel
theorem dX12_init_382 : decode cX12_init 382 = .ok (.invokestatic 115, 3) := by decide +kernel
theorem dX12_init_385 : decode cX12_init 385 = .ok (.lastore, 1) := by decide +kernel
theorem dX12_init_386 : decode cX12_init 386 = .ok (.dup, 1) := by decide +kernel
theorem dX12_init_387 : decode cX12_init 387 = .ok (.bipush 11, 2) := by decide +kernel
theorem dX12_init_389 : decode cX12_init 389 = .ok (.ldc 139, 2) := by decide +kernel
theorem dX12_init_391 : decode cX12_init 391 = .ok (.invokestatic 115, 3) := by decide +kernel
theorem dX12_init_394 : decode cX12_init 394 = .ok (.lastore, 1) := by decide +kernel
theorem dX12_init_395 : decode cX12_init 395 = .ok (.dup, 1) := by decide +kernel
theorem dX12_init_396 : decode cX12_init 396 = .ok (.bipush 12, 2) := by decide +kernel
theorem dX12_init_398 : decode cX12_init 398 = .ok (.ldc 141, 2) := by decide +kernel
theorem dX12_init_400 : decode cX12_init 400 = .ok (.invokestatic 115, 3) := by decide +kernel
theorem dX12_init_403 : decode cX12_init 403 = .ok (.lastore, 1) := by decide +kernel
theorem dX12_init_404 : decode cX12_init 404 = .ok (.dup, 1) := by decide +kernel
theorem dX12_init_405 : decode cX12_init 405 = .ok (.bipush 13, 2) := by decide +kernel
theorem dX12_init_407 : decode cX12_init 407 = .ok (.ldc 143, 2) := by decide +kernel
theorem dX12_init_409 : decode cX12_init 409 = .ok (.invokestatic 115, 3) := by decide +kernel
theorem dX12_init_412 : decode cX12_init 412 = .ok (.lastore, 1) := by decide +kernel
theorem dX12_init_413 : decode cX12_init 413 = .ok (.dup, 1) := by decide +kernel
theorem dX12_init_414 : decode cX12_init 414 = .ok (.bipush 14, 2) := by decide +kernel
theorem dX12_init_416 : decode cX12_init 416 = .ok (.ldc 145, 2) := by decide +kernel
theorem dX12_init_418 : decode cX12_init 418 = .ok (.invokestatic 115, 3) := by decide +kernel
theorem dX12_init_421 : decode cX12_init 421 = .ok (.lastore, 1) := by decide +kernel
theorem dX12_init_422 : decode cX12_init 422 = .ok (.dup, 1) := by decide +kernel
theorem dX12_init_423 : decode cX12_init 423 = .ok (.bipush 15, 2) := by decide +kernel
theorem dX12_init_425 : decode cX12_init 425 = .ok (.ldc 147, 2) := by decide +kernel
theorem dX12_init_427 : decode cX12_init 427 = .ok (.invokestatic 115, 3) := by decide +kernel
theorem dX12_init_430 : decode cX12_init 430 = .ok (.lastore, 1) := by decide +kernel
theorem dX12_init_431 : decode cX12_init 431 = .ok (.dup, 1) := by decide +kernel
theorem dX12_init_432 : decode cX12_init 432 = .ok (.bipush 16, 2) := by decide +kernel
theorem dX12_init_434 : decode cX12_init 434 = .ok (.ldc 149, 2) := by decide +kernel
theorem dX12_init_436 : decode cX12_init 436 = .ok (.invokestatic 115, 3) := by decide +kernel
theorem dX12_init_439 : decode cX12_init 439 = .ok (.lastore, 1) := by decide +kernel
theorem dX12_init_440 : decode cX12_init 440 = .ok (.dup, 1) := by decide +kernel
theorem dX12_init_441 : decode cX12_init 441 = .ok (.bipush 17, 2) := by decide +kernel
theorem dX12_init_443 : decode cX12_init 443 = .ok (.ldc 151, 2) := by decide +kernel
theorem dX12_init_445 : decode cX12_init 445 = .ok (.invokestatic 115, 3) := by decide +kernel
theorem dX12_init_448 : decode cX12_init 448 = .ok (.lastore, 1) := by decide +kernel
theorem dX12_init_449 : decode cX12_init 449 = .ok (.dup, 1) := by decide +kernel
theorem dX12_init_450 : decode cX12_init 450 = .ok (.bipush 18, 2) := by decide +kernel
theorem dX12_init_452 : decode cX12_init 452 = .ok (.ldc 153, 2) := by decide +kernel
theorem dX12_init_454 : decode cX12_init 454 = .ok (.invokestatic 115, 3) := by decide +kernel
theorem dX12_init_457 : decode cX12_init 457 = .ok (.lastore, 1) := by decide +kernel
theorem dX12_init_458 : decode cX12_init 458 = .ok (.dup, 1) := by decide +kernel
theorem dX12_init_459 : decode cX12_init 459 = .ok (.bipush 19, 2) := by decide +kernel
theorem dX12_init_461 : decode cX12_init 461 = .ok (.ldc 155, 2) := by decide +kernel
theorem dX12_init_463 : decode cX12_init 463 = .ok (.invokestatic 115, 3) := by decide +kernel
theorem dX12_init_466 : decode cX12_init 466 = .ok (.lastore, 1) := by decide +kernel
theorem dX12_init_467 : decode cX12_init 467 = .ok (.dup, 1) := by decide +kernel
theorem dX12_init_468 : decode cX12_init 468 = .ok (.bipush 20, 2) := by decide +kernel
theorem dX12_init_470 : decode cX12_init 470 = .ok (.ldc 157, 2) := by decide +kernel
theorem dX12_init_472 : decode cX12_init 472 = .ok (.invokestatic 115, 3) := by decide +kernel
theorem dX12_init_475 : decode cX12_init 475 = .ok (.lastore, 1) := by decide +kernel
theorem dX12_init_476 : decode cX12_init 476 = .ok (.dup, 1) := by decide +kernel
theorem dX12_init_477 : decode cX12_init 477 = .ok (.bipush 21, 2) := by decide +kernel
theorem dX12_init_479 : decode cX12_init 479 = .ok (.ldc 159, 2) := by decide +kernel
theorem dX12_init_481 : decode cX12_init 481 = .ok (.invokestatic 115, 3) := by decide +kernel
theorem dX12_init_484 : decode cX12_init 484 = .ok (.lastore, 1) := by decide +kernel
theorem dX12_init_485 : decode cX12_init 485 = .ok (.dup, 1) := by decide +kernel
theorem dX12_init_486 : decode cX12_init 486 = .ok (.bipush 22, 2) := by decide +kernel
theorem dX12_init_488 : decode cX12_init 488 = .ok (.ldc 161, 2) := by decide +kernel
theorem dX12_init_490 : decode cX12_init 490 = .ok (.invokestatic 115, 3) := by decide +kernel
theorem dX12_init_493 : decode cX12_init 493 = .ok (.lastore, 1) := by decide +kernel
theorem dX12_init_494 : decode cX12_init 494 = .ok (.dup, 1) := by decide +kernel
theorem dX12_init_495 : decode cX12_init 495 = .ok (.bipush 23, 2) := by decide +kernel
theorem dX12_init_497 : decode cX12_init 497 = .ok (.ldc 163, 2) := by decide +kernel
theorem dX12_init_499 : decode cX12_init 499 = .ok (.invokestatic 115, 3) := by decide +kernel
theorem dX12_init_502 : decode cX12_init 502 = .ok (.lastore, 1) := by decide +kernel
theorem dX12_init_503 : decode cX12_init 503 = .ok (.dup, 1) := by decide +kernel
theorem dX12_init_504 : decode cX12_init 504 = .ok (.bipush 24, 2) := by decide +kernel
theorem dX12_init_506 : decode cX12_init 506 = .ok (.ldc 165, 2) := by decide +kernel
theorem dX12_init_508 : decode cX12_init 508 = .ok (.invokestatic 115, 3) := by decide +kernel
theorem dX12_init_511 : decode cX12_init 511 = .ok (.lastore, 1) := by decide +kernel
theorem dX12_init_512 : decode cX12_init 512 = .ok (.dup, 1) := by decide +kernel
theorem dX12_init_513 : decode cX12_init 513 = .ok (.bipush 25, 2) := by decide +kernel
theorem dX12_init_515 : decode cX12_init 515 = .ok (.ldc 167, 2) := by decide +kernel
theorem dX12_init_517 : decode cX12_init 517 = .ok (.invokestatic 115, 3) := by decide +kernel
theorem dX12_init_520 : decode cX12_init 520 = .ok (.lastore, 1) := by decide +kernel
theorem dX12_init_521 : decode cX12_init 521 = .ok (.dup, 1) := by decide +kernel
theorem dX12_init_522 : decode cX12_init 522 = .ok (.bipush 26, 2) := by decide +kernel
theorem dX12_init_524 : decode cX12_init 524 = .ok (.ldc 169, 2) := by decide +kernel
theorem dX12_init_526 : decode cX12_init 526 = .ok (.invokestatic 115, 3) := by decide +kernel
theorem dX12_init_529 : decode cX12_init 529 = .ok (.lastore, 1) := by decide +kernel
theorem dX12_init_530 : decode cX12_init 530 = .ok (.dup, 1) := by decide +kernel
theorem dX12_init_531 : decode cX12_init 531 = .ok (.bipush 27, 2) := by decide +kernel
theorem dX12_init_533 : decode cX12_init 533 = .ok (.ldc 171, 2) := by decide +kernel
theorem dX12_init_535 : decode cX12_init 535 = .ok (.invokestatic 115, 3) := by decide +kernel
theorem dX12_init_538 : decode cX12_init 538 = .ok (.lastore, 1) := by decide +kernel
theorem dX12_init_539 : decode cX12_init 539 = .ok (.putfield 173, 3) := by decide +kernel
theorem dX12_init_542 : decode cX12_init 542 = .ok (.aload_n 0, 1) := by decide +kernel
theorem dX12_init_543 : decode cX12_init 543 = .ok (.sipush 4000, 3) := by decide +kernel
theorem dX12_init_546 : decode cX12_init 546 = .ok (.newarray .byte, 2) := by decide +kernel
theorem dX12_init_548 : decode cX12_init 548 = .ok (.putfield 176, 3) := by decide +kernel
theorem dX12_init_551 : decode cX12_init 551 = .ok (.aload_n 0, 1) := by decide +kernel
theorem dX12_init_552 : decode cX12_init 552 = .ok (.sipush 4000, 3) := by decide +kernel
theorem dX12_init_555 : decode cX12_init 555 = .ok (.newarray .int, 2) := by decide +kernel
theorem dX12_init_557 : decode cX12_init 557 = .ok (.putfield 179, 3) := by decide +kernel
theorem dX12_init_560 : decode cX12_init 560 = .ok (.aload_n 0, 1) := by decide +kernel
theorem dX12_init_561 : decode cX12_init 561 = .ok (.sipush 4000, 3) := by decide +kernel
theorem dX12_init_564 : decode cX12_init 564 = .ok (.newarray .byte, 2) := by decide +kernel
theorem dX12_init_566 : decode cX12_init 566 = .ok (.putfield 182, 3) := by decide +kernel
theorem dX12_init_569 : decode cX12_init 569 = .ok (.aload_n 0, 1) := by decide +kernel
theorem dX12_init_570 : decode cX12_init 570 = .ok (.sipush 4000, 3) := by decide +kernel
theorem dX12_init_573 : decode cX12_init 573 = .ok (.newarray .boolean, 2) := by decide +kernel
theorem dX12_init_575 : decode cX12_init 575 = .ok (.putfield 185, 3) := by decide +kernel
theorem dX12_init_578 : decode cX12_init 578 = .ok (.aload_n 0, 1) := by decide +kernel
theorem dX12_init_579 : decode cX12_init 579 = .ok (.bipush 11, 2) := by decide +kernel
theorem dX12_init_581 : decode cX12_init 581 = .ok (.newarray .long, 2) := by decide +kernel
theorem dX12_init_583 : decode cX12_init 583 = .ok (.putfield 188, 3) := by decide +kernel
theorem dX12_init_586 : decode cX12_init 586 = .ok (.aload_n 0, 1) := by decide +kernel
theorem dX12_init_587 : decode cX12_init 587 = .ok (.sipush 2000, 3) := by decide +kernel
theorem dX12_init_590 : decode cX12_init 590 = .ok (.newarray .int, 2) := by decide +kernel
theorem dX12_init_592 : decode cX12_init 592 = .ok (.putfield 191, 3) := by decide +kernel
theorem dX12_init_595 : decode cX12_init 595 = .ok (.aload_n 0, 1) := by decide +kernel
theorem dX12_init_596 : decode cX12_init 596 = .ok (.sipush 2000, 3) := by decide +kernel
theorem dX12_init_599 : decode cX12_init 599 = .ok (.newarray .int, 2) := by decide +kernel
theorem dX12_init_601 : decode cX12_init 601 = .ok (.putfield 194, 3) := by decide +kernel
theorem dX12_init_604 : decode cX12_init 604 = .ok (.aload_n 0, 1) := by decide +kernel
theorem dX12_init_605 : decode cX12_init 605 = .ok (.sipush 2000, 3) := by decide +kernel
theorem dX12_init_608 : decode cX12_init 608 = .ok (.newarray .long, 2) := by decide +kernel
theorem dX12_init_610 : decode cX12_init 610 = .ok (.putfield 197, 3) := by decide +kernel
theorem dX12_init_613 : decode cX12_init 613 = .ok (.aload_n 0, 1) := by decide +kernel
theorem dX12_init_614 : decode cX12_init 614 = .ok (.sipush 2000, 3) := by decide +kernel
theorem dX12_init_617 : decode cX12_init 617 = .ok (.newarray .int, 2) := by decide +kernel
theorem dX12_init_619 : decode cX12_init 619 = .ok (.putfield 200, 3) := by decide +kernel
theorem dX12_init_622 : decode cX12_init 622 = .ok (.aload_n 0, 1) := by decide +kernel
theorem dX12_init_623 : decode cX12_init 623 = .ok (.sipush 2000, 3) := by decide +kernel
theorem dX12_init_626 : decode cX12_init 626 = .ok (.newarray .long, 2) := by decide +kernel
theorem dX12_init_628 : decode cX12_init 628 = .ok (.putfield 203, 3) := by decide +kernel
theorem dX12_init_631 : decode cX12_init 631 = .ok (.aload_n 0, 1) := by decide +kernel
theorem dX12_init_632 : decode cX12_init 632 = .ok (.sipush 2000, 3) := by decide +kernel
theorem dX12_init_635 : decode cX12_init 635 = .ok (.newarray .int, 2) := by decide +kernel
theorem dX12_init_637 : decode cX12_init 637 = .ok (.putfield 206, 3) := by decide +kernel
theorem dX12_init_640 : decode cX12_init 640 = .ok (.aload_n 0, 1) := by decide +kernel
theorem dX12_init_641 : decode cX12_init 641 = .ok (.sipush 2000, 3) := by decide +kernel
theorem dX12_init_644 : decode cX12_init 644 = .ok (.newarray .int, 2) := by decide +kernel
theorem dX12_init_646 : decode cX12_init 646 = .ok (.putfield 209, 3) := by decide +kernel
theorem dX12_init_649 : decode cX12_init 649 = .ok (.aload_n 0, 1) := by decide +kernel
theorem dX12_init_650 : decode cX12_init 650 = .ok (.sipush 2000, 3) := by decide +kernel
theorem dX12_init_653 : decode cX12_init 653 = .ok (.newarray .int, 2) := by decide +kernel
theorem dX12_init_655 : decode cX12_init 655 = .ok (.putfield 212, 3) := by decide +kernel
theorem dX12_init_658 : decode cX12_init 658 = .ok (.aload_n 0, 1) := by decide +kernel
theorem dX12_init_659 : decode cX12_init 659 = .ok (.bipush 48, 2) := by decide +kernel
theorem dX12_init_661 : decode cX12_init 661 = .ok (.newarray .int, 2) := by decide +kernel
theorem dX12_init_663 : decode cX12_init 663 = .ok (.putfield 215, 3) := by decide +kernel
theorem dX12_init_666 : decode cX12_init 666 = .ok (.aload_n 0, 1) := by decide +kernel
theorem dX12_init_667 : decode cX12_init 667 = .ok (.bipush 8, 2) := by decide +kernel
theorem dX12_init_669 : decode cX12_init 669 = .ok (.newarray .int, 2) := by decide +kernel
theorem dX12_init_671 : decode cX12_init 671 = .ok (.putfield 218, 3) := by decide +kernel
theorem dX12_init_674 : decode cX12_init 674 = .ok (.aload_n 0, 1) := by decide +kernel
theorem dX12_init_675 : decode cX12_init 675 = .ok (.bipush 16, 2) := by decide +kernel
theorem dX12_init_677 : decode cX12_init 677 = .ok (.newarray .int, 2) := by decide +kernel
theorem dX12_init_679 : decode cX12_init 679 = .ok (.putfield 221, 3) := by decide +kernel
theorem dX12_init_682 : decode cX12_init 682 = .ok (.aload_n 0, 1) := by decide +kernel
theorem dX12_init_683 : decode cX12_init 683 = .ok (.sipush 192, 3) := by decide +kernel
theorem dX12_init_686 : decode cX12_init 686 = .ok (.newarray .int, 2) := by decide +kernel
theorem dX12_init_688 : decode cX12_init 688 = .ok (.putfield 224, 3) := by decide +kernel
theorem dX12_init_691 : decode cX12_init 691 = .ok (.aload_n 0, 1) := by decide +kernel
theorem dX12_init_692 : decode cX12_init 692 = .ok (.sipush 9600, 3) := by decide +kernel
theorem dX12_init_695 : decode cX12_init 695 = .ok (.newarray .int, 2) := by decide +kernel
theorem dX12_init_697 : decode cX12_init 697 = .ok (.putfield 227, 3) := by decide +kernel
theorem dX12_init_700 : decode cX12_init 700 = .ok (.aload_n 0, 1) := by decide +kernel
theorem dX12_init_701 : decode cX12_init 701 = .ok (.sipush 3000, 3) := by decide +kernel
theorem dX12_init_704 : decode cX12_init 704 = .ok (.newarray .int, 2) := by decide +kernel
theorem dX12_init_706 : decode cX12_init 706 = .ok (.putfield 230, 3) := by decide +kernel
theorem dX12_init_709 : decode cX12_init 709 = .ok (.aload_n 0, 1) := by decide +kernel
theorem dX12_init_710 : decode cX12_init 710 = .ok (.bipush 120, 2) := by decide +kernel
theorem dX12_init_712 : decode cX12_init 712 = .ok (.newarray .int, 2) := by decide +kernel
theorem dX12_init_714 : decode cX12_init 714 = .ok (.putfield 233, 3) := by decide +kernel
theorem dX12_init_717 : decode cX12_init 717 = .ok (.aload_n 0, 1) := by decide +kernel
theorem dX12_init_718 : decode cX12_init 718 = .ok (.sipush 300, 3) := by decide +kernel
theorem dX12_init_721 : decode cX12_init 721 = .ok (.newarray .int, 2) := by decide +kernel
theorem dX12_init_723 : decode cX12_init 723 = .ok (.putfield 236, 3) := by decide +kernel
theorem dX12_init_726 : decode cX12_init 726 = .ok (.aload_n 0, 1) := by decide +kernel
theorem dX12_init_727 : decode cX12_init 727 = .ok (.sipush 200, 3) := by decide +kernel
theorem dX12_init_730 : decode cX12_init 730 = .ok (.putfield 239, 3) := by decide +kernel
theorem dX12_init_733 : decode cX12_init 733 = .ok (.aload_n 0, 1) := by decide +kernel
theorem dX12_init_734 : decode cX12_init 734 = .ok (.iconst 1, 1) := by decide +kernel
theorem dX12_init_735 : decode cX12_init 735 = .ok (.putfield 243, 3) := by decide +kernel
theorem dX12_init_738 : decode cX12_init 738 = .ok (.aload_n 0, 1) := by decide +kernel
theorem dX12_init_739 : decode cX12_init 739 = .ok (.iconst (-1), 1) := by decide +kernel
theorem dX12_init_740 : decode cX12_init 740 = .ok (.putfield 246, 3) := by decide +kernel
theorem dX12_init_743 : decode cX12_init 743 = .ok (.aload_n 0, 1) := by decide +kernel
theorem dX12_init_744 : decode cX12_init 744 = .ok (.sipush 8000, 3) := by decide +kernel
theorem dX12_init_747 : decode cX12_init 747 = .ok (.newarray .int, 2) := by decide +kernel
theorem dX12_init_749 : decode cX12_init 749 = .ok (.putfield 249, 3) := by decide +kernel
theorem dX12_init_752 : decode cX12_init 752 = .ok (.aload_n 0, 1) := by decide +kernel
theorem dX12_init_753 : decode cX12_init 753 = .ok (.sipush 8000, 3) := by decide +kernel
theorem dX12_init_756 : decode cX12_init 756 = .ok (.newarray .int, 2) := by decide +kernel
theorem dX12_init_758 : decode cX12_init 758 = .ok (.putfield 252, 3) := by decide +kernel
theorem dX12_init_761 : decode cX12_init 761 = .ok (.aload_n 0, 1) := by decide +kernel
theorem dX12_init_762 : decode cX12_init 762 = .ok (.sipush 8000, 3) := by decide +kernel
theorem dX12_init_765 : decode cX12_init 765 = .ok (.newarray .int, 2) := by decide +kernel
theorem dX12_init_767 : decode cX12_init 767 = .ok (.putfield 255, 3) := by decide +kernel
theorem dX12_init_770 : decode cX12_init 770 = .ok (.aload_n 0, 1) := by decide +kernel
theorem dX12_init_771 : decode cX12_init 771 = .ok (.sipush 1001, 3) := by decide +kernel
theorem dX12_init_774 : decode cX12_init 774 = .ok (.newarray .int, 2) := by decide +kernel
theorem dX12_init_776 : decode cX12_init 776 = .ok (.putfield 258, 3) := by decide +kernel
theorem dX12_init_779 : decode cX12_init 779 = .ok (.aload_n 0, 1) := by decide +kernel
theorem dX12_init_780 : decode cX12_init 780 = .ok (.sipush 1001, 3) := by decide +kernel
theorem dX12_init_783 : decode cX12_init 783 = .ok (.newarray .int, 2) := by decide +kernel
theorem dX12_init_785 : decode cX12_init 785 = .ok (.putfield 261, 3) := by decide +kernel
theorem dX12_init_788 : decode cX12_init 788 = .ok (.aload_n 0, 1) := by decide +kernel
theorem dX12_init_789 : decode cX12_init 789 = .ok (.bipush 8, 2) := by decide +kernel
theorem dX12_init_791 : decode cX12_init 791 = .ok (.newarray .boolean, 2) := by decide +kernel
theorem dX12_init_793 : decode cX12_init 793 = .ok (.putfield 264, 3) := by decide +kernel
theorem dX12_init_796 : decode cX12_init 796 = .ok (.aload_n 0, 1) := by decide +kernel
theorem dX12_init_797 : decode cX12_init 797 = .ok (.sipush 128, 3) := by decide +kernel
theorem dX12_init_800 : decode cX12_init 800 = .ok (.newarray .int, 2) := by decide +kernel
theorem dX12_init_802 : decode cX12_init 802 = .ok (.putfield 267, 3) := by decide +kernel
theorem dX12_init_805 : decode cX12_init 805 = .ok (.aload_n 0, 1) := by decide +kernel
theorem dX12_init_806 : decode cX12_init 806 = .ok (.sipush 128, 3) := by decide +kernel
theorem dX12_init_809 : decode cX12_init 809 = .ok (.newarray .int, 2) := by decide +kernel
theorem dX12_init_811 : decode cX12_init 811 = .ok (.putfield 270, 3) := by decide +kernel
theorem dX12_init_814 : decode cX12_init 814 = .ok (.aload_n 0, 1) := by decide +kernel
theorem dX12_init_815 : decode cX12_init 815 = .ok (.sipush 128, 3) := by decide +kernel
theorem dX12_init_818 : decode cX12_init 818 = .ok (.newarray .int, 2) := by decide +kernel
theorem dX12_init_820 : decode cX12_init 820 = .ok (.putfield 273, 3) := by decide +kernel
theorem dX12_init_823 : decode cX12_init 823 = .ok (.aload_n 0, 1) := by decide +kernel
theorem dX12_init_824 : decode cX12_init 824 = .ok (.sipush 128, 3) := by decide +kernel
theorem dX12_init_827 : decode cX12_init 827 = .ok (.newarray .int, 2) := by decide +kernel
theorem dX12_init_829 : decode cX12_init 829 = .ok (.putfield 276, 3) := by decide +kernel
theorem dX12_init_832 : decode cX12_init 832 = .ok (.aload_n 0, 1) := by decide +kernel
theorem dX12_init_833 : decode cX12_init 833 = .ok (.iconst 4, 1) := by decide +kernel
theorem dX12_init_834 : decode cX12_init 834 = .ok (.newarray .int, 2) := by decide +kernel
theorem dX12_init_836 : decode cX12_init 836 = .ok (.putfield 279, 3) := by decide +kernel
theorem dX12_init_839 : decode cX12_init 839 = .ok (.aload_n 0, 1) := by decide +kernel
theorem dX12_init_840 : decode cX12_init 840 = .ok (.bipush 8, 2) := by decide +kernel
theorem dX12_init_842 : decode cX12_init 842 = .ok (.newarray .int, 2) := by decide +kernel
theorem dX12_init_844 : decode cX12_init 844 = .ok (.dup, 1) := by decide +kernel
theorem dX12_init_845 : decode cX12_init 845 = .ok (.iconst 0, 1) := by decide +kernel
theorem dX12_init_846 : decode cX12_init 846 = .ok (.iconst (-1), 1) := by decide +kernel
theorem dX12_init_847 : decode cX12_init 847 = .ok (.iastore, 1) := by decide +kernel
theorem dX12_init_848 : decode cX12_init 848 = .ok (.dup, 1) := by decide +kernel
theorem dX12_init_849 : decode cX12_init 849 = .ok (.iconst 1, 1) := by decide +kernel
theorem dX12_init_850 : decode cX12_init 850 = .ok (.iconst (-1), 1) := by decide +kernel
theorem dX12_init_851 : decode cX12_init 851 = .ok (.iastore, 1) := by decide +kernel
theorem dX12_init_852 : decode cX12_init 852 = .ok (.dup, 1) := by decide +kernel
theorem dX12_init_853 : decode cX12_init 853 = .ok (.iconst 2, 1) := by decide +kernel
theorem dX12_init_854 : decode cX12_init 854 = .ok (.iconst (-1), 1) := by decide +kernel
theorem dX12_init_855 : decode cX12_init 855 = .ok (.iastore, 1) := by decide +kernel
theorem dX12_init_856 : decode cX12_init 856 = .ok (.dup, 1) := by decide +kernel
theorem dX12_init_857 : decode cX12_init 857 = .ok (.iconst 3, 1) := by decide +kernel
theorem dX12_init_858 : decode cX12_init 858 = .ok (.iconst (-1), 1) := by decide +kernel
theorem dX12_init_859 : decode cX12_init 859 = .ok (.iastore, 1) := by decide +kernel
theorem dX12_init_860 : decode cX12_init 860 = .ok (.dup, 1) := by decide +kernel
theorem dX12_init_861 : decode cX12_init 861 = .ok (.iconst 4, 1) := by decide +kernel
theorem dX12_init_862 : decode cX12_init 862 = .ok (.iconst (-1), 1) := by decide +kernel
theorem dX12_init_863 : decode cX12_init 863 = .ok (.iastore, 1) := by decide +kernel
theorem dX12_init_864 : decode cX12_init 864 = .ok (.dup, 1) := by decide +kernel
theorem dX12_init_865 : decode cX12_init 865 = .ok (.iconst 5, 1) := by decide +kernel
theorem dX12_init_866 : decode cX12_init 866 = .ok (.iconst (-1), 1) := by decide +kernel
theorem dX12_init_867 : decode cX12_init 867 = .ok (.iastore, 1) := by decide +kernel
theorem dX12_init_868 : decode cX12_init 868 = .ok (.dup, 1) := by decide +kernel
theorem dX12_init_869 : decode cX12_init 869 = .ok (.bipush 6, 2) := by decide +kernel
theorem dX12_init_871 : decode cX12_init 871 = .ok (.iconst (-1), 1) := by decide +kernel
theorem dX12_init_872 : decode cX12_init 872 = .ok (.iastore, 1) := by decide +kernel
theorem dX12_init_873 : decode cX12_init 873 = .ok (.dup, 1) := by decide +kernel
theorem dX12_init_874 : decode cX12_init 874 = .ok (.bipush 7, 2) := by decide +kernel
theorem dX12_init_876 : decode cX12_init 876 = .ok (.iconst (-1), 1) := by decide +kernel
theorem dX12_init_877 : decode cX12_init 877 = .ok (.iastore, 1) := by decide +kernel
theorem dX12_init_878 : decode cX12_init 878 = .ok (.putfield 282, 3) := by decide +kernel
theorem dX12_init_881 : decode cX12_init 881 = .ok (.aload_n 0, 1) := by decide +kernel
theorem dX12_init_882 : decode cX12_init 882 = .ok (.bipush 8, 2) := by decide +kernel
theorem dX12_init_884 : decode cX12_init 884 = .ok (.newarray .int, 2) := by decide +kernel
theorem dX12_init_886 : decode cX12_init 886 = .ok (.putfield 285, 3) := by decide +kernel
theorem dX12_init_889 : decode cX12_init 889 = .ok (.aload_n 0, 1) := by decide +kernel
theorem dX12_init_890 : decode cX12_init 890 = .ok (.bipush 8, 2) := by decide +kernel
theorem dX12_init_892 : decode cX12_init 892 = .ok (.newarray .int, 2) := by decide +kernel
theorem dX12_init_894 : decode cX12_init 894 = .ok (.putfield 288, 3) := by decide +kernel
theorem dX12_init_897 : decode cX12_init 897 = .ok (.aload_n 0, 1) := by decide +kernel
theorem dX12_init_898 : decode cX12_init 898 = .ok (.bipush 8, 2) := by decide +kernel
theorem dX12_init_900 : decode cX12_init 900 = .ok (.newarray .int, 2) := by decide +kernel
theorem dX12_init_902 : decode cX12_init 902 = .ok (.putfield 291, 3) := by decide +kernel
theorem dX12_init_905 : decode cX12_init 905 = .ok (.aload_n 0, 1) := by decide +kernel
theorem dX12_init_906 : decode cX12_init 906 = .ok (.bipush 64, 2) := by decide +kernel
theorem dX12_init_908 : decode cX12_init 908 = .ok (.newarray .int, 2) := by decide +kernel
theorem dX12_init_910 : decode cX12_init 910 = .ok (.putfield 294, 3) := by decide +kernel
theorem dX12_init_913 : decode cX12_init 913 = .ok (.aload_n 0, 1) := by decide +kernel
theorem dX12_init_914 : decode cX12_init 914 = .ok (.bipush 64, 2) := by decide +kernel
theorem dX12_init_916 : decode cX12_init 916 = .ok (.newarray .int, 2) := by decide +kernel
theorem dX12_init_918 : decode cX12_init 918 = .ok (.putfield 297, 3) := by decide +kernel
theorem dX12_init_921 : decode cX12_init 921 = .ok (.aload_n 0, 1) := by decide +kernel
theorem dX12_init_922 : decode cX12_init 922 = .ok (.bipush 64, 2) := by decide +kernel
theorem dX12_init_924 : decode cX12_init 924 = .ok (.newarray .boolean, 2) := by decide +kernel
theorem dX12_init_926 : decode cX12_init 926 = .ok (.putfield 300, 3) := by decide +kernel
theorem dX12_init_929 : decode cX12_init 929 = .ok (.aload_n 0, 1) := by decide +kernel
theorem dX12_init_930 : decode cX12_init 930 = .ok (.bipush 64, 2) := by decide +kernel
theorem dX12_init_932 : decode cX12_init 932 = .ok (.newarray .int, 2) := by decide +kernel
theorem dX12_init_934 : decode cX12_init 934 = .ok (.putfield 303, 3) := by decide +kernel
theorem dX12_init_937 : decode cX12_init 937 = .ok (.aload_n 0, 1) := by decide +kernel
theorem dX12_init_938 : decode cX12_init 938 = .ok (.bipush 8, 2) := by decide +kernel
theorem dX12_init_940 : decode cX12_init 940 = .ok (.newarray .int, 2) := by decide +kernel
theorem dX12_init_942 : decode cX12_init 942 = .ok (.putfield 306, 3) := by decide +kernel
theorem dX12_init_945 : decode cX12_init 945 = .ok (.aload_n 0, 1) := by decide +kernel
theorem dX12_init_946 : decode cX12_init 946 = .ok (.sipush 400, 3) := by decide +kernel
theorem dX12_init_949 : decode cX12_init 949 = .ok (.newarray .int, 2) := by decide +kernel
theorem dX12_init_951 : decode cX12_init 951 = .ok (.putfield 309, 3) := by decide +kernel
theorem dX12_init_954 : decode cX12_init 954 = .ok (.aload_n 0, 1) := by decide +kernel
theorem dX12_init_955 : decode cX12_init 955 = .ok (.sipush 1600, 3) := by decide +kernel
theorem dX12_init_958 : decode cX12_init 958 = .ok (.newarray .int, 2) := by decide +kernel
theorem dX12_init_960 : decode cX12_init 960 = .ok (.putfield 312, 3) := by decide +kernel
theorem dX12_init_963 : decode cX12_init 963 = .ok (.aload_n 0, 1) := by decide +kernel
theorem dX12_init_964 : decode cX12_init 964 = .ok (.bipush 8, 2) := by decide +kernel
theorem dX12_init_966 : decode cX12_init 966 = .ok (.newarray .boolean, 2) := by decide +kernel
theorem dX12_init_968 : decode cX12_init 968 = .ok (.putfield 315, 3) := by decide +kernel
theorem dX12_init_971 : decode cX12_init 971 = .ok (.aload_n 0, 1) := by decide +kernel
theorem dX12_init_972 : decode cX12_init 972 = .ok (.sipush 8000, 3) := by decide +kernel
theorem dX12_init_975 : decode cX12_init 975 = .ok (.newarray .int, 2) := by decide +kernel
theorem dX12_init_977 : decode cX12_init 977 = .ok (.putfield 318, 3) := by decide +kernel
theorem dX12_init_980 : decode cX12_init 980 = .ok (.aload_n 0, 1) := by decide +kernel
theorem dX12_init_981 : decode cX12_init 981 = .ok (.sipush 1000, 3) := by decide +kernel
theorem dX12_init_984 : decode cX12_init 984 = .ok (.newarray .int, 2) := by decide +kernel
theorem dX12_init_986 : decode cX12_init 986 = .ok (.putfield 321, 3) := by decide +kernel
theorem dX12_init_989 : decode cX12_init 989 = .ok (.aload_n 0, 1) := by decide +kernel
theorem dX12_init_990 : decode cX12_init 990 = .ok (.bipush 8, 2) := by decide +kernel
theorem dX12_init_992 : decode cX12_init 992 = .ok (.newarray .int, 2) := by decide +kernel
theorem dX12_init_994 : decode cX12_init 994 = .ok (.putfield 324, 3) := by decide +kernel
theorem dX12_init_997 : decode cX12_init 997 = .ok (.aload_n 0, 1) := by decide +kernel
theorem dX12_init_998 : decode cX12_init 998 = .ok (.bipush 16, 2) := by decide +kernel
theorem dX12_init_1000 : decode cX12_init 1000 = .ok (.newarray .int, 2) := by decide +kernel
theorem dX12_init_1002 : decode cX12_init 1002 = .ok (.putfield 327, 3) := by decide +kernel
theorem dX12_init_1005 : decode cX12_init 1005 = .ok (.aload_n 0, 1) := by decide +kernel
theorem dX12_init_1006 : decode cX12_init 1006 = .ok (.bipush 16, 2) := by decide +kernel
theorem dX12_init_1008 : decode cX12_init 1008 = .ok (.newarray .int, 2) := by decide +kernel
theorem dX12_init_1010 : decode cX12_init 1010 = .ok (.putfield 330, 3) := by decide +kernel
theorem dX12_init_1013 : decode cX12_init 1013 = .ok (.aload_n 0, 1) := by decide +kernel
theorem dX12_init_1014 : decode cX12_init 1014 = .ok (.iconst 4, 1) := by decide +kernel
theorem dX12_init_1015 : decode cX12_init 1015 = .ok (.newarray .int, 2) := by decide +kernel
theorem dX12_init_1017 : decode cX12_init 1017 = .ok (.putfield 333, 3) := by decide +kernel
theorem dX12_init_1020 : decode cX12_init 1020 = .ok (.aload_n 0, 1) := by decide +kernel
theorem dX12_init_1021 : decode cX12_init 1021 = .ok (.iconst 4, 1) := by decide +kernel
theorem dX12_init_1022 : decode cX12_init 1022 = .ok (.newarray .int, 2) := by decide +kernel
theorem dX12_init_1024 : decode cX12_init 1024 = .ok (.putfield 336, 3) := by decide +kernel
theorem dX12_init_1027 : decode cX12_init 1027 = .ok (.aload_n 0, 1) := by decide +kernel
theorem dX12_init_1028 : decode cX12_init 1028 = .ok (.bipush 8, 2) := by decide +kernel
theorem dX12_init_1030 : decode cX12_init 1030 = .ok (.newarray .int, 2) := by decide +kernel
theorem dX12_init_1032 : decode cX12_init 1032 = .ok (.putfield 339, 3) := by decide +kernel
theorem dX12_init_1035 : decode cX12_init 1035 = .ok (.aload_n 0, 1) := by decide +kernel
theorem dX12_init_1036 : decode cX12_init 1036 = .ok (.bipush 8, 2) := by decide +kernel
theorem dX12_init_1038 : decode cX12_init 1038 = .ok (.newarray .int, 2) := by decide +kernel
theorem dX12_init_1040 : decode cX12_init 1040 = .ok (.putfield 342, 3) := by decide +kernel
theorem dX12_init_1043 : decode cX12_init 1043 = .ok (.aload_n 0, 1) := by decide +kernel
theorem dX12_init_1044 : decode cX12_init 1044 = .ok (.bipush 64, 2) := by decide +kernel
theorem dX12_init_1046 : decode cX12_init 1046 = .ok (.newarray .int, 2) := by decide +kernel
theorem dX12_init_1048 : decode cX12_init 1048 = .ok (.putfield 345, 3) := by decide +kernel
theorem dX12_init_1051 : decode cX12_init 1051 = .ok (.aload_n 0, 1) := by decide +kernel
theorem dX12_init_1052 : decode cX12_init 1052 = .ok (.bipush 64, 2) := by decide +kernel
theorem dX12_init_1054 : decode cX12_init 1054 = .ok (.newarray .int, 2) := by decide +kernel
theorem dX12_init_1056 : decode cX12_init 1056 = .ok (.putfield 348, 3) := by decide +kernel
theorem dX12_init_1059 : decode cX12_init 1059 = .ok (.aload_n 0, 1) := by decide +kernel
theorem dX12_init_1060 : decode cX12_init 1060 = .ok (.bipush 64, 2) := by decide +kernel
theorem dX12_init_1062 : decode cX12_init 1062 = .ok (.newarray .int, 2) := by decide +kernel
theorem dX12_init_1064 : decode cX12_init 1064 = .ok (.putfield 351, 3) := by decide +kernel
theorem dX12_init_1067 : decode cX12_init 1067 = .ok (.aload_n 0, 1) := by decide +kernel
theorem dX12_init_1068 : decode cX12_init 1068 = .ok (.bipush 64, 2) := by decide +kernel
theorem dX12_init_1070 : decode cX12_init 1070 = .ok (.newarray .int, 2) := by decide +kernel
theorem dX12_init_1072 : decode cX12_init 1072 = .ok (.putfield 354, 3) := by decide +kernel
theorem dX12_init_1075 : decode cX12_init 1075 = .ok (.aload_n 0, 1) := by decide +kernel
theorem dX12_init_1076 : decode cX12_init 1076 = .ok (.bipush 64, 2) := by decide +kernel
theorem dX12_init_1078 : decode cX12_init 1078 = .ok (.newarray .int, 2) := by decide +kernel
theorem dX12_init_1080 : decode cX12_init 1080 = .ok (.putfield 357, 3) := by decide +kernel
theorem dX12_init_1083 : decode cX12_init 1083 = .ok (.aload_n 0, 1) := by decide +kernel
theorem dX12_init_1084 : decode cX12_init 1084 = .ok (.bipush 8, 2) := by decide +kernel
theorem dX12_init_1086 : decode cX12_init 1086 = .ok (.newarray .int, 2) := by decide +kernel
theorem dX12_init_1088 : decode cX12_init 1088 = .ok (.putfield 360, 3) := by decide +kernel
theorem dX12_init_1091 : decode cX12_init 1091 = .ok (.aload_n 0, 1) := by decide +kernel
theorem dX12_init_1092 : decode cX12_init 1092 = .ok (.bipush 9, 2) := by decide +kernel
theorem dX12_init_1094 : decode cX12_init 1094 = .ok (.newarray .int, 2) := by decide +kernel
theorem dX12_init_1096 : decode cX12_init 1096 = .ok (.putfield 363, 3) := by decide +kernel
theorem dX12_init_1099 : decode cX12_init 1099 = .ok (.aload_n 0, 1) := by decide +kernel
theorem dX12_init_1100 : decode cX12_init 1100 = .ok (.bipush 16, 2) := by decide +kernel
theorem dX12_init_1102 : decode cX12_init 1102 = .ok (.newarray .int, 2) := by decide +kernel
theorem dX12_init_1104 : decode cX12_init 1104 = .ok (.putfield 366, 3) := by decide +kernel
theorem dX12_init_1107 : decode cX12_init 1107 = .ok (.aload_n 0, 1) := by decide +kernel
theorem dX12_init_1108 : decode cX12_init 1108 = .ok (.bipush 16, 2) := by decide +kernel
theorem dX12_init_1110 : decode cX12_init 1110 = .ok (.newarray .int, 2) := by decide +kernel
theorem dX12_init_1112 : decode cX12_init 1112 = .ok (.putfield 369, 3) := by decide +kernel
theorem dX12_init_1115 : decode cX12_init 1115 = .ok (.aload_n 0, 1) := by decide +kernel
theorem dX12_init_1116 : decode cX12_init 1116 = .ok (.bipush 8, 2) := by decide +kernel
theorem dX12_init_1118 : decode cX12_init 1118 = .ok (.newarray .int, 2) := by decide +kernel
theorem dX12_init_1120 : decode cX12_init 1120 = .ok (.putfield 372, 3) := by decide +kernel
theorem dX12_init_1123 : decode cX12_init 1123 = .ok (.aload_n 0, 1) := by decide +kernel
theorem dX12_init_1124 : decode cX12_init 1124 = .ok (.bipush 8, 2) := by decide +kernel
theorem dX12_init_1126 : decode cX12_init 1126 = .ok (.newarray .int, 2) := by decide +kernel
theorem dX12_init_1128 : decode cX12_init 1128 = .ok (.putfield 375, 3) := by decide +kernel
theorem dX12_init_1131 : decode cX12_init 1131 = .ok (.return_, 1) := by decide +kernel
theorem dX12_in_0 : decode cX12_in 0 = .ok (.iload_n 0, 1) := by decide +kernel
theorem dX12_in_1 : decode cX12_in 1 = .ok (.iload_n 1, 1) := by decide +kernel
theorem dX12_in_2 : decode cX12_in 2 = .ok (.if_icmp .lt 12, 3) := by decide +kernel
theorem dX12_in_5 : decode cX12_in 5 = .ok (.iload_n 0, 1) := by decide +kernel
theorem dX12_in_6 : decode cX12_in 6 = .ok (.iload_n 2, 1) := by decide +kernel
theorem dX12_in_7 : decode cX12_in 7 = .ok (.if_icmp .gt 7, 3) := by decide +kernel
theorem dX12_in_10 : decode cX12_in 10 = .ok (.iconst 1, 1) := by decide +kernel
theorem dX12_in_11 : decode cX12_in 11 = .ok (.goto 4, 3) := by decide +kernel
theorem dX12_in_14 : decode cX12_in 14 = .ok (.iconst 0, 1) := by decide +kernel
theorem dX12_in_15 : decode cX12_in 15 = .ok (.ireturn, 1) := by decide +kernel
theorem dX12_feed_0 : decode cX12_feed 0 = .ok (.aload_n 0, 1) := by decide +kernel
theorem dX12_feed_1 : decode cX12_feed 1 = .ok (.getfield 378, 3) := by decide +kernel
theorem dX12_feed_4 : decode cX12_feed 4 = .ok (.bipush 20, 2) := by decide +kernel
theorem dX12_feed_6 : decode cX12_feed 6 = .ok (.iadd, 1) := by decide +kernel
theorem dX12_feed_7 : decode cX12_feed 7 = .ok (.sipush 3000, 3) := by decide +kernel
theorem dX12_feed_10 : decode cX12_feed 10 = .ok (.if_icmp .le 6, 3) := by decide +kernel
theorem dX12_feed_13 : decode cX12_feed 13 = .ok (.bipush (-3), 2) := by decide +kernel
theorem dX12_feed_15 : decode cX12_feed 15 = .ok (.ireturn, 1) := by decide +kernel
theorem dX12_feed_16 : decode cX12_feed 16 = .ok (.iconst 0, 1) := by decide +kernel
theorem dX12_feed_17 : decode cX12_feed 17 = .ok (.istore 6, 2) := by decide +kernel
theorem dX12_feed_19 : decode cX12_feed 19 = .ok (.iload 6, 2) := by decide +kernel
theorem dX12_feed_21 : decode cX12_feed 21 = .ok (.bipush 20, 2) := by decide +kernel
theorem dX12_feed_23 : decode cX12_feed 23 = .ok (.if_icmp .ge 83, 3) := by decide +kernel
theorem dX12_feed_26 : decode cX12_feed 26 = .ok (.iload 6, 2) := by decide +kernel
theorem dX12_feed_28 : decode cX12_feed 28 = .ok (.iconst 4, 1) := by decide +kernel
theorem dX12_feed_29 : decode cX12_feed 29 = .ok (.if_icmp .ge 7, 3) := by decide +kernel
theorem dX12_feed_32 : decode cX12_feed 32 = .ok (.iload_n 1, 1) := by decide +kernel
theorem dX12_feed_33 : decode cX12_feed 33 = .ok (.goto 39, 3) := by decide +kernel
theorem dX12_feed_36 : decode cX12_feed 36 = .ok (.iload 6, 2) := by decide +kernel
theorem dX12_feed_38 : decode cX12_feed 38 = .ok (.bipush 8, 2) := by decide +kernel
theorem dX12_feed_40 : decode cX12_feed 40 = .ok (.if_icmp .ge 7, 3) := by decide +kernel
theorem dX12_feed_43 : decode cX12_feed 43 = .ok (.iload_n 2, 1) := by decide +kernel
theorem dX12_feed_44 : decode cX12_feed 44 = .ok (.goto 28, 3) := by decide +kernel
theorem dX12_feed_47 : decode cX12_feed 47 = .ok (.iload 6, 2) := by decide +kernel
theorem dX12_feed_49 : decode cX12_feed 49 = .ok (.bipush 12, 2) := by decide +kernel
theorem dX12_feed_51 : decode cX12_feed 51 = .ok (.if_icmp .ge 7, 3) := by decide +kernel
theorem dX12_feed_54 : decode cX12_feed 54 = .ok (.iload_n 3, 1) := by decide +kernel
theorem dX12_feed_55 : decode cX12_feed 55 = .ok (.goto 17, 3) := by decide +kernel
theorem dX12_feed_58 : decode cX12_feed 58 = .ok (.iload 6, 2) := by decide +kernel
theorem dX12_feed_60 : decode cX12_feed 60 = .ok (.bipush 16, 2) := by decide +kernel
theorem dX12_feed_62 : decode cX12_feed 62 = .ok (.if_icmp .ge 8, 3) := by decide +kernel
theorem dX12_feed_65 : decode cX12_feed 65 = .ok (.iload 4, 2) := by decide +kernel
theorem dX12_feed_67 : decode cX12_feed 67 = .ok (.goto 5, 3) := by decide +kernel
theorem dX12_feed_70 : decode cX12_feed 70 = .ok (.iload 5, 2) := by decide +kernel
theorem dX12_feed_72 : decode cX12_feed 72 = .ok (.istore 7, 2) := by decide +kernel
theorem dX12_feed_74 : decode cX12_feed 74 = .ok (.aload_n 0, 1) := by decide +kernel
theorem dX12_feed_75 : decode cX12_feed 75 = .ok (.getfield 7, 3) := by decide +kernel
theorem dX12_feed_78 : decode cX12_feed 78 = .ok (.aload_n 0, 1) := by decide +kernel
theorem dX12_feed_79 : decode cX12_feed 79 = .ok (.getfield 378, 3) := by decide +kernel
theorem dX12_feed_82 : decode cX12_feed 82 = .ok (.iload 6, 2) := by decide +kernel
theorem dX12_feed_84 : decode cX12_feed 84 = .ok (.iadd, 1) := by decide +kernel
theorem dX12_feed_85 : decode cX12_feed 85 = .ok (.iload 7, 2) := by decide +kernel
theorem dX12_feed_87 : decode cX12_feed 87 = .ok (.bipush 24, 2) := by decide +kernel
theorem dX12_feed_89 : decode cX12_feed 89 = .ok (.bipush 8, 2) := by decide +kernel
theorem dX12_feed_91 : decode cX12_feed 91 = .ok (.iload 6, 2) := by decide +kernel
theorem dX12_feed_93 : decode cX12_feed 93 = .ok (.iconst 4, 1) := by decide +kernel
theorem dX12_feed_94 : decode cX12_feed 94 = .ok (.irem, 1) := by decide +kernel
theorem dX12_feed_95 : decode cX12_feed 95 = .ok (.imul, 1) := by decide +kernel
theorem dX12_feed_96 : decode cX12_feed 96 = .ok (.isub, 1) := by decide +kernel
theorem dX12_feed_97 : decode cX12_feed 97 = .ok (.ishr, 1) := by decide +kernel
theorem dX12_feed_98 : decode cX12_feed 98 = .ok (.i2b, 1) := by decide +kernel
theorem dX12_feed_99 : decode cX12_feed 99 = .ok (.bastore, 1) := by decide +kernel
theorem dX12_feed_100 : decode cX12_feed 100 = .ok (.iinc 6 1, 3) := by decide +kernel
theorem dX12_feed_103 : decode cX12_feed 103 = .ok (.goto (-84), 3) := by decide +kernel
theorem dX12_feed_106 : decode cX12_feed 106 = .ok (.aload_n 0, 1) := by decide +kernel
theorem dX12_feed_107 : decode cX12_feed 107 = .ok (.dup, 1) := by decide +kernel
theorem dX12_feed_108 : decode cX12_feed 108 = .ok (.getfield 378, 3) := by decide +kernel
theorem dX12_feed_111 : decode cX12_feed 111 = .ok (.bipush 20, 2) := by decide +kernel
theorem dX12_feed_113 : decode cX12_feed 113 = .ok (.iadd, 1) := by decide +kernel
theorem dX12_feed_114 : decode cX12_feed 114 = .ok (.putfield 378, 3) := by decide +kernel
theorem dX12_feed_117 : decode cX12_feed 117 = .ok (.aload_n 0, 1) := by decide +kernel
theorem dX12_feed_118 : decode cX12_feed 118 = .ok (.getfield 378, 3) := by decide +kernel
theorem dX12_feed_121 : decode cX12_feed 121 = .ok (.ireturn, 1) := by decide +kernel
theorem dX12_cut_0 : decode cX12_cut 0 = .ok (.iload_n 1, 1) := by decide +kernel
theorem dX12_cut_1 : decode cX12_cut 1 = .ok (.iconst 0, 1) := by decide +kernel
theorem dX12_cut_2 : decode cX12_cut 2 = .ok (.aload_n 0, 1) := by decide +kernel
theorem dX12_cut_3 : decode cX12_cut 3 = .ok (.getfield 378, 3) := by decide +kernel
theorem dX12_cut_6 : decode cX12_cut 6 = .ok (.invokestatic 381, 3) := by decide +kernel
theorem dX12_cut_9 : decode cX12_cut 9 = .ok (.ifCond .ne 5, 3) := by decide +kernel
theorem dX12_cut_12 : decode cX12_cut 12 = .ok (.iconst (-1), 1) := by decide +kernel
theorem dX12_cut_13 : decode cX12_cut 13 = .ok (.ireturn, 1) := by decide +kernel
theorem dX12_cut_14 : decode cX12_cut 14 = .ok (.aload_n 0, 1) := by decide +kernel
theorem dX12_cut_15 : decode cX12_cut 15 = .ok (.dup, 1) := by decide +kernel
theorem dX12_cut_16 : decode cX12_cut 16 = .ok (.getfield 378, 3) := by decide +kernel
theorem dX12_cut_19 : decode cX12_cut 19 = .ok (.iload_n 1, 1) := by decide +kernel
theorem dX12_cut_20 : decode cX12_cut 20 = .ok (.isub, 1) := by decide +kernel
theorem dX12_cut_21 : decode cX12_cut 21 = .ok (.putfield 378, 3) := by decide +kernel
theorem dX12_cut_24 : decode cX12_cut 24 = .ok (.aload_n 0, 1) := by decide +kernel
theorem dX12_cut_25 : decode cX12_cut 25 = .ok (.getfield 378, 3) := by decide +kernel
theorem dX12_cut_28 : decode cX12_cut 28 = .ok (.ireturn, 1) := by decide +kernel
theorem dX12_packed_0 : decode cX12_packed 0 = .ok (.lconst 0, 1) := by decide +kernel
theorem dX12_packed_1 : decode cX12_packed 1 = .ok (.lstore_n 1, 1) := by decide +kernel
theorem dX12_packed_2 : decode cX12_packed 2 = .ok (.iconst 0, 1) := by decide +kernel
theorem dX12_packed_3 : decode cX12_packed 3 = .ok (.istore_n 3, 1) := by decide +kernel
theorem dX12_packed_4 : decode cX12_packed 4 = .ok (.iload_n 3, 1) := by decide +kernel
theorem dX12_packed_5 : decode cX12_packed 5 = .ok (.aload_n 0, 1) := by decide +kernel
theorem dX12_packed_6 : decode cX12_packed 6 = .ok (.invokevirtual 385, 3) := by decide +kernel
theorem dX12_packed_9 : decode cX12_packed 9 = .ok (.if_icmp .ge 21, 3) := by decide +kernel
theorem dX12_packed_12 : decode cX12_packed 12 = .ok (.lload_n 1, 1) := by decide +kernel
theorem dX12_packed_13 : decode cX12_packed 13 = .ok (.bipush 8, 2) := by decide +kernel
theorem dX12_packed_15 : decode cX12_packed 15 = .ok (.lshl, 1) := by decide +kernel
theorem dX12_packed_16 : decode cX12_packed 16 = .ok (.aload_n 0, 1) := by decide +kernel
theorem dX12_packed_17 : decode cX12_packed 17 = .ok (.iload_n 3, 1) := by decide +kernel
theorem dX12_packed_18 : decode cX12_packed 18 = .ok (.invokevirtual 391, 3) := by decide +kernel
theorem dX12_packed_21 : decode cX12_packed 21 = .ok (.i2l, 1) := by decide +kernel
theorem dX12_packed_22 : decode cX12_packed 22 = .ok (.lor, 1) := by decide +kernel
theorem dX12_packed_23 : decode cX12_packed 23 = .ok (.lstore_n 1, 1) := by decide +kernel
theorem dX12_packed_24 : decode cX12_packed 24 = .ok (.iinc 3 1, 3) := by decide +kernel
theorem dX12_packed_27 : decode cX12_packed 27 = .ok (.goto (-23), 3) := by decide +kernel
theorem dX12_packed_30 : decode cX12_packed 30 = .ok (.lload_n 1, 1) := by decide +kernel
theorem dX12_packed_31 : decode cX12_packed 31 = .ok (.lreturn, 1) := by decide +kernel
theorem dX12_isLetter_0 : decode cX12_isLetter 0 = .ok (.iload_n 0, 1) := by decide +kernel
theorem dX12_isLetter_1 : decode cX12_isLetter 1 = .ok (.bipush 97, 2) := by decide +kernel
theorem dX12_isLetter_3 : decode cX12_isLetter 3 = .ok (.bipush 122, 2) := by decide +kernel
theorem dX12_isLetter_5 : decode cX12_isLetter 5 = .ok (.invokestatic 381, 3) := by decide +kernel
theorem dX12_isLetter_8 : decode cX12_isLetter 8 = .ok (.ireturn, 1) := by decide +kernel
theorem dX12_isDigit_0 : decode cX12_isDigit 0 = .ok (.iload_n 0, 1) := by decide +kernel
theorem dX12_isDigit_1 : decode cX12_isDigit 1 = .ok (.bipush 48, 2) := by decide +kernel
theorem dX12_isDigit_3 : decode cX12_isDigit 3 = .ok (.bipush 57, 2) := by decide +kernel
theorem dX12_isDigit_5 : decode cX12_isDigit 5 = .ok (.invokestatic 381, 3) := by decide +kernel
theorem dX12_isDigit_8 : decode cX12_isDigit 8 = .ok (.ireturn, 1) := by decide +kernel
theorem dX12_at_0 : decode cX12_at 0 = .ok (.iload_n 1, 1) := by decide +kernel
theorem dX12_at_1 : decode cX12_at 1 = .ok (.aload_n 0, 1) := by decide +kernel
theorem dX12_at_2 : decode cX12_at 2 = .ok (.getfield 378, 3) := by decide +kernel
theorem dX12_at_5 : decode cX12_at 5 = .ok (.if_icmp .ge 12, 3) := by decide +kernel
theorem dX12_at_8 : decode cX12_at 8 = .ok (.aload_n 0, 1) := by decide +kernel
theorem dX12_at_9 : decode cX12_at 9 = .ok (.getfield 7, 3) := by decide +kernel
theorem dX12_at_12 : decode cX12_at 12 = .ok (.iload_n 1, 1) := by decide +kernel
theorem dX12_at_13 : decode cX12_at 13 = .ok (.baload, 1) := by decide +kernel
theorem dX12_at_14 : decode cX12_at 14 = .ok (.goto 4, 3) := by decide +kernel
theorem dX12_at_17 : decode cX12_at 17 = .ok (.iconst 0, 1) := by decide +kernel
theorem dX12_at_18 : decode cX12_at 18 = .ok (.ireturn, 1) := by decide +kernel
theorem dX12_next_0 : decode cX12_next 0 = .ok (.aload_n 0, 1) := by decide +kernel
theorem dX12_next_1 : decode cX12_next 1 = .ok (.getfield 395, 3) := by decide +kernel
theorem dX12_next_4 : decode cX12_next 4 = .ok (.ifCond .eq 4, 3) := by decide +kernel
theorem dX12_next_7 : decode cX12_next 7 = .ok (.return_, 1) := by decide +kernel
theorem dX12_next_8 : decode cX12_next 8 = .ok (.aload_n 0, 1) := by decide +kernel
theorem dX12_next_9 : decode cX12_next 9 = .ok (.getfield 398, 3) := by decide +kernel
theorem dX12_next_12 : decode cX12_next 12 = .ok (.aload_n 0, 1) := by decide +kernel
theorem dX12_next_13 : decode cX12_next 13 = .ok (.getfield 378, 3) := by decide +kernel
theorem dX12_next_16 : decode cX12_next 16 = .ok (.if_icmp .ge 55, 3) := by decide +kernel
theorem dX12_next_19 : decode cX12_next 19 = .ok (.aload_n 0, 1) := by decide +kernel
theorem dX12_next_20 : decode cX12_next 20 = .ok (.aload_n 0, 1) := by decide +kernel
theorem dX12_next_21 : decode cX12_next 21 = .ok (.getfield 398, 3) := by decide +kernel
theorem dX12_next_24 : decode cX12_next 24 = .ok (.invokevirtual 401, 3) := by decide +kernel
theorem dX12_next_27 : decode cX12_next 27 = .ok (.bipush 10, 2) := by decide +kernel
theorem dX12_next_29 : decode cX12_next 29 = .ok (.if_icmp .eq 29, 3) := by decide +kernel
theorem dX12_next_32 : decode cX12_next 32 = .ok (.aload_n 0, 1) := by decide +kernel
theorem dX12_next_33 : decode cX12_next 33 = .ok (.aload_n 0, 1) := by decide +kernel
theorem dX12_next_34 : decode cX12_next 34 = .ok (.getfield 398, 3) := by decide +kernel
theorem dX12_next_37 : decode cX12_next 37 = .ok (.invokevirtual 401, 3) := by decide +kernel
theorem dX12_next_40 : decode cX12_next 40 = .ok (.bipush 13, 2) := by decide +kernel
theorem dX12_next_42 : decode cX12_next 42 = .ok (.if_icmp .eq 16, 3) := by decide +kernel
theorem dX12_next_45 : decode cX12_next 45 = .ok (.aload_n 0, 1) := by decide +kernel
theorem dX12_next_46 : decode cX12_next 46 = .ok (.aload_n 0, 1) := by decide +kernel
theorem dX12_next_47 : decode cX12_next 47 = .ok (.getfield 398, 3) := by decide +kernel
theorem dX12_next_50 : decode cX12_next 50 = .ok (.invokevirtual 401, 3) := by decide +kernel
theorem dX12_next_53 : decode cX12_next 53 = .ok (.bipush 32, 2) := by decide +kernel
theorem dX12_next_55 : decode cX12_next 55 = .ok (.if_icmp .ne 16, 3) := by decide +kernel
theorem dX12_next_58 : decode cX12_next 58 = .ok (.aload_n 0, 1) := by decide +kernel
theorem dX12_next_59 : decode cX12_next 59 = .ok (.dup, 1) := by decide +kernel
theorem dX12_next_60 : decode cX12_next 60 = .ok (.getfield 398, 3) := by decide +kernel
theorem dX12_next_63 : decode cX12_next 63 = .ok (.iconst 1, 1) := by decide +kernel
theorem dX12_next_64 : decode cX12_next 64 = .ok (.iadd, 1) := by decide +kernel
theorem dX12_next_65 : decode cX12_next 65 = .ok (.putfield 398, 3) := by decide +kernel
theorem dX12_next_68 : decode cX12_next 68 = .ok (.goto (-60), 3) := by decide +kernel
theorem dX12_next_71 : decode cX12_next 71 = .ok (.aload_n 0, 1) := by decide +kernel
theorem dX12_next_72 : decode cX12_next 72 = .ok (.aload_n 0, 1) := by decide +kernel
theorem dX12_next_73 : decode cX12_next 73 = .ok (.getfield 398, 3) := by decide +kernel
theorem dX12_next_76 : decode cX12_next 76 = .ok (.putfield 405, 3) := by decide +kernel
theorem dX12_next_79 : decode cX12_next 79 = .ok (.aload_n 0, 1) := by decide +kernel
theorem dX12_next_80 : decode cX12_next 80 = .ok (.aload_n 0, 1) := by decide +kernel
theorem dX12_next_81 : decode cX12_next 81 = .ok (.getfield 405, 3) := by decide +kernel
theorem dX12_next_84 : decode cX12_next 84 = .ok (.invokevirtual 401, 3) := by decide +kernel
theorem dX12_next_87 : decode cX12_next 87 = .ok (.istore_n 1, 1) := by decide +kernel
theorem dX12_next_88 : decode cX12_next 88 = .ok (.aload_n 0, 1) := by decide +kernel
theorem dX12_next_89 : decode cX12_next 89 = .ok (.getfield 405, 3) := by decide +kernel
theorem dX12_next_92 : decode cX12_next 92 = .ok (.aload_n 0, 1) := by decide +kernel
theorem dX12_next_93 : decode cX12_next 93 = .ok (.getfield 378, 3) := by decide +kernel
theorem dX12_next_96 : decode cX12_next 96 = .ok (.if_icmp .ne 11, 3) := by decide +kernel
theorem dX12_next_99 : decode cX12_next 99 = .ok (.aload_n 0, 1) := by decide +kernel
theorem dX12_next_100 : decode cX12_next 100 = .ok (.iconst 0, 1) := by decide +kernel
theorem dX12_next_101 : decode cX12_next 101 = .ok (.putfield 408, 3) := by decide +kernel
theorem dX12_next_104 : decode cX12_next 104 = .ok (.goto 482, 3) := by decide +kernel
theorem dX12_next_107 : decode cX12_next 107 = .ok (.iload_n 1, 1) := by decide +kernel
theorem dX12_next_108 : decode cX12_next 108 = .ok (.invokestatic 411, 3) := by decide +kernel
theorem dX12_next_111 : decode cX12_next 111 = .ok (.ifCond .eq 151, 3) := by decide +kernel
theorem dX12_next_114 : decode cX12_next 114 = .ok (.aload_n 0, 1) := by decide +kernel
theorem dX12_next_115 : decode cX12_next 115 = .ok (.lconst 0, 1) := by decide +kernel
theorem dX12_next_116 : decode cX12_next 116 = .ok (.putfield 415, 3) := by decide +kernel
theorem dX12_next_119 : decode cX12_next 119 = .ok (.aload_n 0, 1) := by decide +kernel
theorem dX12_next_120 : decode cX12_next 120 = .ok (.aload_n 0, 1) := by decide +kernel
theorem dX12_next_121 : decode cX12_next 121 = .ok (.getfield 398, 3) := by decide +kernel
theorem dX12_next_124 : decode cX12_next 124 = .ok (.invokevirtual 401, 3) := by decide +kernel
theorem dX12_next_127 : decode cX12_next 127 = .ok (.invokestatic 411, 3) := by decide +kernel
theorem dX12_next_130 : decode cX12_next 130 = .ok (.ifCond .ne 17, 3) := by decide +kernel
theorem dX12_next_133 : decode cX12_next 133 = .ok (.aload_n 0, 1) := by decide +kernel
theorem dX12_next_134 : decode cX12_next 134 = .ok (.aload_n 0, 1) := by decide +kernel
theorem dX12_next_135 : decode cX12_next 135 = .ok (.getfield 398, 3) := by decide +kernel
theorem dX12_next_138 : decode cX12_next 138 = .ok (.invokevirtual 401, 3) := by decide +kernel
theorem dX12_next_141 : decode cX12_next 141 = .ok (.invokestatic 419, 3) := by decide +kernel
theorem dX12_next_144 : decode cX12_next 144 = .ok (.ifCond .eq 37, 3) := by decide +kernel
theorem dX12_next_147 : decode cX12_next 147 = .ok (.aload_n 0, 1) := by decide +kernel
theorem dX12_next_148 : decode cX12_next 148 = .ok (.aload_n 0, 1) := by decide +kernel
theorem dX12_next_149 : decode cX12_next 149 = .ok (.getfield 415, 3) := by decide +kernel
theorem dX12_next_152 : decode cX12_next 152 = .ok (.bipush 8, 2) := by decide +kernel
theorem dX12_next_154 : decode cX12_next 154 = .ok (.lshl, 1) := by decide +kernel
theorem dX12_next_155 : decode cX12_next 155 = .ok (.aload_n 0, 1) := by decide +kernel
theorem dX12_next_156 : decode cX12_next 156 = .ok (.aload_n 0, 1) := by decide +kernel
theorem dX12_next_157 : decode cX12_next 157 = .ok (.getfield 398, 3) := by decide +kernel
theorem dX12_next_160 : decode cX12_next 160 = .ok (.invokevirtual 401, 3) := by decide +kernel
theorem dX12_next_163 : decode cX12_next 163 = .ok (.i2l, 1) := by decide +kernel
theorem dX12_next_164 : decode cX12_next 164 = .ok (.lor, 1) := by decide +kernel
theorem dX12_next_165 : decode cX12_next 165 = .ok (.putfield 415, 3) := by decide +kernel
theorem dX12_next_168 : decode cX12_next 168 = .ok (.aload_n 0, 1) := by decide +kernel
theorem dX12_next_169 : decode cX12_next 169 = .ok (.dup, 1) := by decide +kernel
theorem dX12_next_170 : decode cX12_next 170 = .ok (.getfield 398, 3) := by decide +kernel
theorem dX12_next_173 : decode cX12_next 173 = .ok (.iconst 1, 1) := by decide +kernel
theorem dX12_next_174 : decode cX12_next 174 = .ok (.iadd, 1) := by decide +kernel
theorem dX12_next_175 : decode cX12_next 175 = .ok (.putfield 398, 3) := by decide +kernel
theorem dX12_next_178 : decode cX12_next 178 = .ok (.goto (-59), 3) := by decide +kernel
theorem dX12_next_181 : decode cX12_next 181 = .ok (.aload_n 0, 1) := by decide +kernel
theorem dX12_next_182 : decode cX12_next 182 = .ok (.aload_n 0, 1) := by decide +kernel
theorem dX12_next_183 : decode cX12_next 183 = .ok (.getfield 398, 3) := by decide +kernel
theorem dX12_next_186 : decode cX12_next 186 = .ok (.aload_n 0, 1) := by decide +kernel
theorem dX12_next_187 : decode cX12_next 187 = .ok (.getfield 405, 3) := by decide +kernel
theorem dX12_next_190 : decode cX12_next 190 = .ok (.isub, 1) := by decide +kernel
theorem dX12_next_191 : decode cX12_next 191 = .ok (.bipush 8, 2) := by decide +kernel
theorem dX12_next_193 : decode cX12_next 193 = .ok (.if_icmp .le 7, 3) := by decide +kernel
theorem dX12_next_196 : decode cX12_next 196 = .ok (.iconst (-1), 1) := by decide +kernel
theorem dX12_next_197 : decode cX12_next 197 = .ok (.goto 4, 3) := by decide +kernel
theorem dX12_next_200 : decode cX12_next 200 = .ok (.iconst 1, 1) := by decide +kernel
theorem dX12_next_201 : decode cX12_next 201 = .ok (.putfield 408, 3) := by decide +kernel
theorem dX12_next_204 : decode cX12_next 204 = .ok (.iconst 0, 1) := by decide +kernel
theorem dX12_next_205 : decode cX12_next 205 = .ok (.istore_n 2, 1) := by decide +kernel
theorem dX12_next_206 : decode cX12_next 206 = .ok (.iload_n 2, 1) := by decide +kernel
theorem dX12_next_207 : decode cX12_next 207 = .ok (.aload_n 0, 1) := by decide +kernel
theorem dX12_next_208 : decode cX12_next 208 = .ok (.getfield 173, 3) := by decide +kernel
theorem dX12_next_211 : decode cX12_next 211 = .ok (.arraylength, 1) := by decide +kernel
theorem dX12_next_212 : decode cX12_next 212 = .ok (.if_icmp .ge 47, 3) := by decide +kernel
theorem dX12_next_215 : decode cX12_next 215 = .ok (.aload_n 0, 1) := by decide +kernel
theorem dX12_next_216 : decode cX12_next 216 = .ok (.getfield 408, 3) := by decide +kernel
theorem dX12_next_219 : decode cX12_next 219 = .ok (.iconst 1, 1) := by decide +kernel
theorem dX12_next_220 : decode cX12_next 220 = .ok (.if_icmp .ne 39, 3) := by decide +kernel
theorem dX12_next_223 : decode cX12_next 223 = .ok (.aload_n 0, 1) := by decide +kernel
theorem dX12_next_224 : decode cX12_next 224 = .ok (.aload_n 0, 1) := by decide +kernel
theorem dX12_next_225 : decode cX12_next 225 = .ok (.getfield 173, 3) := by decide +kernel
theorem dX12_next_228 : decode cX12_next 228 = .ok (.iload_n 2, 1) := by decide +kernel
theorem dX12_next_229 : decode cX12_next 229 = .ok (.laload, 1) := by decide +kernel
theorem dX12_next_230 : decode cX12_next 230 = .ok (.aload_n 0, 1) := by decide +kernel
theorem dX12_next_231 : decode cX12_next 231 = .ok (.getfield 415, 3) := by decide +kernel
theorem dX12_next_234 : decode cX12_next 234 = .ok (.lcmp, 1) := by decide +kernel
theorem dX12_next_235 : decode cX12_next 235 = .ok (.ifCond .ne 11, 3) := by decide +kernel
theorem dX12_next_238 : decode cX12_next 238 = .ok (.sipush 401, 3) := by decide +kernel
theorem dX12_next_241 : decode cX12_next 241 = .ok (.iload_n 2, 1) := by decide +kernel
theorem dX12_next_242 : decode cX12_next 242 = .ok (.iadd, 1) := by decide +kernel
theorem dX12_next_243 : decode cX12_next 243 = .ok (.goto 7, 3) := by decide +kernel
theorem dX12_next_246 : decode cX12_next 246 = .ok (.aload_n 0, 1) := by decide +kernel
theorem dX12_next_247 : decode cX12_next 247 = .ok (.getfield 408, 3) := by decide +kernel
theorem dX12_next_250 : decode cX12_next 250 = .ok (.putfield 408, 3) := by decide +kernel
theorem dX12_next_253 : decode cX12_next 253 = .ok (.iinc 2 1, 3) := by decide +kernel
theorem dX12_next_256 : decode cX12_next 256 = .ok (.goto (-50), 3) := by decide +kernel
theorem dX12_next_259 : decode cX12_next 259 = .ok (.goto 327, 3) := by decide +kernel
theorem dX12_next_262 : decode cX12_next 262 = .ok (.iload_n 1, 1) := by decide +kernel
theorem dX12_next_263 : decode cX12_next 263 = .ok (.invokestatic 419, 3) := by decide +kernel
theorem dX12_next_266 : decode cX12_next 266 = .ok (.ifCond .eq 119, 3) := by decide +kernel
theorem dX12_next_269 : decode cX12_next 269 = .ok (.aload_n 0, 1) := by decide +kernel
theorem dX12_next_270 : decode cX12_next 270 = .ok (.iconst 0, 1) := by decide +kernel
theorem dX12_next_271 : decode cX12_next 271 = .ok (.putfield 422, 3) := by decide +kernel
theorem dX12_next_274 : decode cX12_next 274 = .ok (.aload_n 0, 1) := by decide +kernel
theorem dX12_next_275 : decode cX12_next 275 = .ok (.aload_n 0, 1) := by decide +kernel
theorem dX12_next_276 : decode cX12_next 276 = .ok (.getfield 398, 3) := by decide +kernel
theorem dX12_next_279 : decode cX12_next 279 = .ok (.invokevirtual 401, 3) := by decide +kernel
theorem dX12_next_282 : decode cX12_next 282 = .ok (.invokestatic 419, 3) := by decide +kernel
theorem dX12_next_285 : decode cX12_next 285 = .ok (.ifCond .eq 60, 3) := by decide +kernel
theorem dX12_next_288 : decode cX12_next 288 = .ok (.aload_n 0, 1) := by decide +kernel
theorem dX12_next_289 : decode cX12_next 289 = .ok (.aload_n 0, 1) := by decide +kernel
theorem dX12_next_290 : decode cX12_next 290 = .ok (.getfield 398, 3) := by decide +kernel
theorem dX12_next_293 : decode cX12_next 293 = .ok (.aload_n 0, 1) := by decide +kernel
theorem dX12_next_294 : decode cX12_next 294 = .ok (.getfield 405, 3) := by decide +kernel
theorem dX12_next_297 : decode cX12_next 297 = .ok (.isub, 1) := by decide +kernel
theorem dX12_next_298 : decode cX12_next 298 = .ok (.bipush 9, 2) := by decide +kernel
theorem dX12_next_300 : decode cX12_next 300 = .ok (.if_icmp .ge 25, 3) := by decide +kernel
theorem dX12_next_303 : decode cX12_next 303 = .ok (.bipush 10, 2) := by decide +kernel
theorem dX12_next_305 : decode cX12_next 305 = .ok (.aload_n 0, 1) := by decide +kernel
theorem dX12_next_306 : decode cX12_next 306 = .ok (.getfield 422, 3) := by decide +kernel
theorem dX12_next_309 : decode cX12_next 309 = .ok (.imul, 1) := by decide +kernel
theorem dX12_next_310 : decode cX12_next 310 = .ok (.aload_n 0, 1) := by decide +kernel
theorem dX12_next_311 : decode cX12_next 311 = .ok (.aload_n 0, 1) := by decide +kernel
theorem dX12_next_312 : decode cX12_next 312 = .ok (.getfield 398, 3) := by decide +kernel
theorem dX12_next_315 : decode cX12_next 315 = .ok (.invokevirtual 401, 3) := by decide +kernel
theorem dX12_next_318 : decode cX12_next 318 = .ok (.iadd, 1) := by decide +kernel
theorem dX12_next_319 : decode cX12_next 319 = .ok (.bipush 48, 2) := by decide +kernel
theorem dX12_next_321 : decode cX12_next 321 = .ok (.isub, 1) := by decide +kernel
theorem dX12_next_322 : decode cX12_next 322 = .ok (.goto 7, 3) := by decide +kernel
theorem dX12_next_325 : decode cX12_next 325 = .ok (.aload_n 0, 1) := by decide +kernel
theorem dX12_next_326 : decode cX12_next 326 = .ok (.getfield 422, 3) := by decide +kernel
theorem dX12_next_329 : decode cX12_next 329 = .ok (.putfield 422, 3) := by decide +kernel
theorem dX12_next_332 : decode cX12_next 332 = .ok (.aload_n 0, 1) := by decide +kernel
theorem dX12_next_333 : decode cX12_next 333 = .ok (.dup, 1) := by decide +kernel
theorem dX12_next_334 : decode cX12_next 334 = .ok (.getfield 398, 3) := by decide +kernel
theorem dX12_next_337 : decode cX12_next 337 = .ok (.iconst 1, 1) := by decide +kernel
theorem dX12_next_338 : decode cX12_next 338 = .ok (.iadd, 1) := by decide +kernel
theorem dX12_next_339 : decode cX12_next 339 = .ok (.putfield 398, 3) := by decide +kernel
theorem dX12_next_342 : decode cX12_next 342 = .ok (.goto (-68), 3) := by decide +kernel
theorem dX12_next_345 : decode cX12_next 345 = .ok (.aload_n 0, 1) := by decide +kernel
theorem dX12_next_346 : decode cX12_next 346 = .ok (.aload_n 0, 1) := by decide +kernel
theorem dX12_next_347 : decode cX12_next 347 = .ok (.getfield 398, 3) := by decide +kernel
theorem dX12_next_350 : decode cX12_next 350 = .ok (.aload_n 0, 1) := by decide +kernel
theorem dX12_next_351 : decode cX12_next 351 = .ok (.getfield 405, 3) := by decide +kernel
theorem dX12_next_354 : decode cX12_next 354 = .ok (.isub, 1) := by decide +kernel
theorem dX12_next_355 : decode cX12_next 355 = .ok (.bipush 9, 2) := by decide +kernel
theorem dX12_next_357 : decode cX12_next 357 = .ok (.if_icmp .gt 17, 3) := by decide +kernel
theorem dX12_next_360 : decode cX12_next 360 = .ok (.aload_n 0, 1) := by decide +kernel
theorem dX12_next_361 : decode cX12_next 361 = .ok (.aload_n 0, 1) := by decide +kernel
theorem dX12_next_362 : decode cX12_next 362 = .ok (.getfield 398, 3) := by decide +kernel
theorem dX12_next_365 : decode cX12_next 365 = .ok (.invokevirtual 401, 3) := by decide +kernel
theorem dX12_next_368 : decode cX12_next 368 = .ok (.invokestatic 411, 3) := by decide +kernel
theorem dX12_next_371 : decode cX12_next 371 = .ok (.ifCond .eq 7, 3) := by decide +kernel
theorem dX12_next_374 : decode cX12_next 374 = .ok (.iconst (-1), 1) := by decide +kernel
theorem dX12_next_375 : decode cX12_next 375 = .ok (.goto 4, 3) := by decide +kernel
theorem dX12_next_378 : decode cX12_next 378 = .ok (.iconst 2, 1) := by decide +kernel
theorem dX12_next_379 : decode cX12_next 379 = .ok (.putfield 408, 3) := by decide +kernel
theorem dX12_next_382 : decode cX12_next 382 = .ok (.goto 204, 3) := by decide +kernel
theorem dX12_next_385 : decode cX12_next 385 = .ok (.aload_n 0, 1) := by decide +kernel
theorem dX12_next_386 : decode cX12_next 386 = .ok (.dup, 1) := by decide +kernel
theorem dX12_next_387 : decode cX12_next 387 = .ok (.getfield 398, 3) := by decide +kernel
theorem dX12_next_390 : decode cX12_next 390 = .ok (.iconst 1, 1) := by decide +kernel
theorem dX12_next_391 : decode cX12_next 391 = .ok (.iadd, 1) := by decide +kernel
theorem dX12_next_392 : decode cX12_next 392 = .ok (.putfield 398, 3) := by decide +kernel
theorem dX12_next_395 : decode cX12_next 395 = .ok (.aload_n 0, 1) := by decide +kernel
theorem dX12_next_396 : decode cX12_next 396 = .ok (.aload_n 0, 1) := by decide +kernel
theorem dX12_next_397 : decode cX12_next 397 = .ok (.getfield 398, 3) := by decide +kernel
theorem dX12_next_400 : decode cX12_next 400 = .ok (.invokevirtual 401, 3) := by decide +kernel
theorem dX12_next_403 : decode cX12_next 403 = .ok (.bipush 61, 2) := by decide +kernel
theorem dX12_next_405 : decode cX12_next 405 = .ok (.if_icmp .ne 7, 3) := by decide +kernel
theorem dX12_next_408 : decode cX12_next 408 = .ok (.iconst 1, 1) := by decide +kernel
theorem dX12_next_409 : decode cX12_next 409 = .ok (.goto 4, 3) := by decide +kernel
theorem dX12_next_412 : decode cX12_next 412 = .ok (.iconst 0, 1) := by decide +kernel
theorem dX12_next_413 : decode cX12_next 413 = .ok (.istore_n 2, 1) := by decide +kernel
theorem dX12_next_414 : decode cX12_next 414 = .ok (.aload_n 0, 1) := by decide +kernel
theorem dX12_next_415 : decode cX12_next 415 = .ok (.iload_n 1, 1) := by decide +kernel
theorem dX12_next_416 : decode cX12_next 416 = .ok (.putfield 408, 3) := by decide +kernel
theorem dX12_next_419 : decode cX12_next 419 = .ok (.iload_n 1, 1) := by decide +kernel
theorem dX12_next_420 : decode cX12_next 420 = .ok (.bipush 60, 2) := by decide +kernel
theorem dX12_next_422 : decode cX12_next 422 = .ok (.if_icmp .eq 15, 3) := by decide +kernel
theorem dX12_next_425 : decode cX12_next 425 = .ok (.iload_n 1, 1) := by decide +kernel
theorem dX12_next_426 : decode cX12_next 426 = .ok (.bipush 61, 2) := by decide +kernel
theorem dX12_next_428 : decode cX12_next 428 = .ok (.if_icmp .eq 9, 3) := by decide +kernel
theorem dX12_next_431 : decode cX12_next 431 = .ok (.iload_n 1, 1) := by decide +kernel
theorem dX12_next_432 : decode cX12_next 432 = .ok (.bipush 33, 2) := by decide +kernel
theorem dX12_next_434 : decode cX12_next 434 = .ok (.if_icmp .ne 51, 3) := by decide +kernel
theorem dX12_next_437 : decode cX12_next 437 = .ok (.iload_n 2, 1) := by decide +kernel
theorem dX12_next_438 : decode cX12_next 438 = .ok (.ifCond .eq 47, 3) := by decide +kernel
theorem dX12_next_441 : decode cX12_next 441 = .ok (.aload_n 0, 1) := by decide +kernel
theorem dX12_next_442 : decode cX12_next 442 = .ok (.dup, 1) := by decide +kernel
theorem dX12_next_443 : decode cX12_next 443 = .ok (.getfield 398, 3) := by decide +kernel
theorem dX12_next_446 : decode cX12_next 446 = .ok (.iconst 1, 1) := by decide +kernel
theorem dX12_next_447 : decode cX12_next 447 = .ok (.iadd, 1) := by decide +kernel
theorem dX12_next_448 : decode cX12_next 448 = .ok (.putfield 398, 3) := by decide +kernel
theorem dX12_next_451 : decode cX12_next 451 = .ok (.aload_n 0, 1) := by decide +kernel
theorem dX12_next_452 : decode cX12_next 452 = .ok (.iload_n 1, 1) := by decide +kernel
theorem dX12_next_453 : decode cX12_next 453 = .ok (.bipush 60, 2) := by decide +kernel
theorem dX12_next_455 : decode cX12_next 455 = .ok (.if_icmp .ne 9, 3) := by decide +kernel
theorem dX12_next_458 : decode cX12_next 458 = .ok (.sipush 300, 3) := by decide +kernel
theorem dX12_next_461 : decode cX12_next 461 = .ok (.goto 18, 3) := by decide +kernel
theorem dX12_next_464 : decode cX12_next 464 = .ok (.iload_n 1, 1) := by decide +kernel
theorem dX12_next_465 : decode cX12_next 465 = .ok (.bipush 61, 2) := by decide +kernel
theorem dX12_next_467 : decode cX12_next 467 = .ok (.if_icmp .ne 9, 3) := by decide +kernel
theorem dX12_next_470 : decode cX12_next 470 = .ok (.sipush 301, 3) := by decide +kernel
theorem dX12_next_473 : decode cX12_next 473 = .ok (.goto 6, 3) := by decide +kernel
theorem dX12_next_476 : decode cX12_next 476 = .ok (.sipush 302, 3) := by decide +kernel
theorem dX12_next_479 : decode cX12_next 479 = .ok (.putfield 408, 3) := by decide +kernel
theorem dX12_next_482 : decode cX12_next 482 = .ok (.goto 104, 3) := by decide +kernel
theorem dX12_next_485 : decode cX12_next 485 = .ok (.iload_n 1, 1) := by decide +kernel
theorem dX12_next_486 : decode cX12_next 486 = .ok (.bipush 123, 2) := by decide +kernel
theorem dX12_next_488 : decode cX12_next 488 = .ok (.if_icmp .eq 98, 3) := by decide +kernel
theorem dX12_next_491 : decode cX12_next 491 = .ok (.iload_n 1, 1) := by decide +kernel
theorem dX12_next_492 : decode cX12_next 492 = .ok (.bipush 125, 2) := by decide +kernel
theorem dX12_next_494 : decode cX12_next 494 = .ok (.if_icmp .eq 92, 3) := by decide +kernel
theorem dX12_next_497 : decode cX12_next 497 = .ok (.iload_n 1, 1) := by decide +kernel
theorem dX12_next_498 : decode cX12_next 498 = .ok (.bipush 40, 2) := by decide +kernel
theorem dX12_next_500 : decode cX12_next 500 = .ok (.if_icmp .eq 86, 3) := by decide +kernel
theorem dX12_next_503 : decode cX12_next 503 = .ok (.iload_n 1, 1) := by decide +kernel
theorem dX12_next_504 : decode cX12_next 504 = .ok (.bipush 41, 2) := by decide +kernel
theorem dX12_next_506 : decode cX12_next 506 = .ok (.if_icmp .eq 80, 3) := by decide +kernel
theorem dX12_next_509 : decode cX12_next 509 = .ok (.iload_n 1, 1) := by decide +kernel
theorem dX12_next_510 : decode cX12_next 510 = .ok (.bipush 91, 2) := by decide +kernel
theorem dX12_next_512 : decode cX12_next 512 = .ok (.if_icmp .eq 74, 3) := by decide +kernel
theorem dX12_next_515 : decode cX12_next 515 = .ok (.iload_n 1, 1) := by decide +kernel
theorem dX12_next_516 : decode cX12_next 516 = .ok (.bipush 93, 2) := by decide +kernel
theorem dX12_next_518 : decode cX12_next 518 = .ok (.if_icmp .eq 68, 3) := by decide +kernel
theorem dX12_next_521 : decode cX12_next 521 = .ok (.iload_n 1, 1) := by decide +kernel
theorem dX12_next_522 : decode cX12_next 522 = .ok (.bipush 44, 2) := by decide +kernel
theorem dX12_next_524 : decode cX12_next 524 = .ok (.if_icmp .eq 62, 3) := by decide +kernel
theorem dX12_next_527 : decode cX12_next 527 = .ok (.iload_n 1, 1) := by decide +kernel
theorem dX12_next_528 : decode cX12_next 528 = .ok (.bipush 59, 2) := by decide +kernel
theorem dX12_next_530 : decode cX12_next 530 = .ok (.if_icmp .eq 56, 3) := by decide +kernel
theorem dX12_next_533 : decode cX12_next 533 = .ok (.iload_n 1, 1) := by decide +kernel
theorem dX12_next_534 : decode cX12_next 534 = .ok (.bipush 46, 2) := by decide +kernel
theorem dX12_next_536 : decode cX12_next 536 = .ok (.if_icmp .eq 50, 3) := by decide +kernel
theorem dX12_next_539 : decode cX12_next 539 = .ok (.iload_n 1, 1) := by decide +kernel
theorem dX12_next_540 : decode cX12_next 540 = .ok (.bipush 61, 2) := by decide +kernel
theorem dX12_next_542 : decode cX12_next 542 = .ok (.if_icmp .eq 44, 3) := by decide +kernel
theorem dX12_next_545 : decode cX12_next 545 = .ok (.iload_n 1, 1) := by decide +kernel
theorem dX12_next_546 : decode cX12_next 546 = .ok (.bipush 43, 2) := by decide +kernel
theorem dX12_next_548 : decode cX12_next 548 = .ok (.if_icmp .eq 38, 3) := by decide +kernel
theorem dX12_next_551 : decode cX12_next 551 = .ok (.iload_n 1, 1) := by decide +kernel
theorem dX12_next_552 : decode cX12_next 552 = .ok (.bipush 45, 2) := by decide +kernel
theorem dX12_next_554 : decode cX12_next 554 = .ok (.if_icmp .eq 32, 3) := by decide +kernel
theorem dX12_next_557 : decode cX12_next 557 = .ok (.iload_n 1, 1) := by decide +kernel
theorem dX12_next_558 : decode cX12_next 558 = .ok (.bipush 42, 2) := by decide +kernel
theorem dX12_next_560 : decode cX12_next 560 = .ok (.if_icmp .eq 26, 3) := by decide +kernel
theorem dX12_next_563 : decode cX12_next 563 = .ok (.iload_n 1, 1) := by decide +kernel
theorem dX12_next_564 : decode cX12_next 564 = .ok (.bipush 47, 2) := by decide +kernel
theorem dX12_next_566 : decode cX12_next 566 = .ok (.if_icmp .eq 20, 3) := by decide +kernel
theorem dX12_next_569 : decode cX12_next 569 = .ok (.iload_n 1, 1) := by decide +kernel
theorem dX12_next_570 : decode cX12_next 570 = .ok (.bipush 37, 2) := by decide +kernel
theorem dX12_next_572 : decode cX12_next 572 = .ok (.if_icmp .eq 14, 3) := by decide +kernel
theorem dX12_next_575 : decode cX12_next 575 = .ok (.iload_n 1, 1) := by decide +kernel
theorem dX12_next_576 : decode cX12_next 576 = .ok (.bipush 60, 2) := by decide +kernel
theorem dX12_next_578 : decode cX12_next 578 = .ok (.if_icmp .eq 8, 3) := by decide +kernel
theorem dX12_next_581 : decode cX12_next 581 = .ok (.aload_n 0, 1) := by decide +kernel
theorem dX12_next_582 : decode cX12_next 582 = .ok (.iconst (-1), 1) := by decide +kernel
theorem dX12_next_583 : decode cX12_next 583 = .ok (.putfield 408, 3) := by decide +kernel
theorem dX12_next_586 : decode cX12_next 586 = .ok (.return_, 1) := by decide +kernel
theorem dX12_fail_0 : decode cX12_fail 0 = .ok (.aload_n 0, 1) := by decide +kernel
theorem dX12_fail_1 : decode cX12_fail 1 = .ok (.getfield 395, 3) := by decide +kernel
theorem dX12_fail_4 : decode cX12_fail 4 = .ok (.ifCond .ne 13, 3) := by decide +kernel
theorem dX12_fail_7 : decode cX12_fail 7 = .ok (.aload_n 0, 1) := by decide +kernel
theorem dX12_fail_8 : decode cX12_fail 8 = .ok (.iload_n 1, 1) := by decide +kernel
theorem dX12_fail_9 : decode cX12_fail 9 = .ok (.putfield 395, 3) := by decide +kernel
theorem dX12_fail_12 : decode cX12_fail 12 = .ok (.aload_n 0, 1) := by decide +kernel
theorem dX12_fail_13 : decode cX12_fail 13 = .ok (.iload_n 2, 1) := by decide +kernel
theorem dX12_fail_14 : decode cX12_fail 14 = .ok (.putfield 425, 3) := by decide +kernel
theorem dX12_fail_17 : decode cX12_fail 17 = .ok (.return_, 1) := by decide +kernel
theorem dX12_must_0 : decode cX12_must 0 = .ok (.iload_n 1, 1) := by decide +kernel
theorem dX12_must_1 : decode cX12_must 1 = .ok (.ifCond .eq 11, 3) := by decide +kernel
theorem dX12_must_4 : decode cX12_must 4 = .ok (.aload_n 0, 1) := by decide +kernel
theorem dX12_must_5 : decode cX12_must 5 = .ok (.getfield 408, 3) := by decide +kernel
theorem dX12_must_8 : decode cX12_must 8 = .ok (.iconst (-1), 1) := by decide +kernel
theorem dX12_must_9 : decode cX12_must 9 = .ok (.if_icmp .ne 24, 3) := by decide +kernel
theorem dX12_must_12 : decode cX12_must 12 = .ok (.aload_n 0, 1) := by decide +kernel
theorem dX12_must_13 : decode cX12_must 13 = .ok (.aload_n 0, 1) := by decide +kernel
theorem dX12_must_14 : decode cX12_must 14 = .ok (.getfield 408, 3) := by decide +kernel
theorem dX12_must_17 : decode cX12_must 17 = .ok (.iconst (-1), 1) := by decide +kernel
theorem dX12_must_18 : decode cX12_must 18 = .ok (.if_icmp .ne 7, 3) := by decide +kernel
theorem dX12_must_21 : decode cX12_must 21 = .ok (.iconst 1, 1) := by decide +kernel
theorem dX12_must_22 : decode cX12_must 22 = .ok (.goto 4, 3) := by decide +kernel
theorem dX12_must_25 : decode cX12_must 25 = .ok (.iconst 2, 1) := by decide +kernel
theorem dX12_must_26 : decode cX12_must 26 = .ok (.aload_n 0, 1) := by decide +kernel
theorem dX12_must_27 : decode cX12_must 27 = .ok (.getfield 405, 3) := by decide +kernel
theorem dX12_must_30 : decode cX12_must 30 = .ok (.invokevirtual 428, 3) := by decide +kernel
theorem dX12_must_33 : decode cX12_must 33 = .ok (.aload_n 0, 1) := by decide +kernel
theorem dX12_must_34 : decode cX12_must 34 = .ok (.getfield 395, 3) := by decide +kernel
theorem dX12_must_37 : decode cX12_must 37 = .ok (.ifCond .ne 7, 3) := by decide +kernel
theorem dX12_must_40 : decode cX12_must 40 = .ok (.iconst 1, 1) := by decide +kernel
theorem dX12_must_41 : decode cX12_must 41 = .ok (.goto 4, 3) := by decide +kernel
theorem dX12_must_44 : decode cX12_must 44 = .ok (.iconst 0, 1) := by decide +kernel
theorem dX12_must_45 : decode cX12_must 45 = .ok (.ireturn, 1) := by decide +kernel
theorem dX12_want_0 : decode cX12_want 0 = .ok (.iload_n 1, 1) := by decide +kernel
theorem dX12_want_1 : decode cX12_want 1 = .ok (.ifCond .ne 12, 3) := by decide +kernel
theorem dX12_want_4 : decode cX12_want 4 = .ok (.aload_n 0, 1) := by decide +kernel
theorem dX12_want_5 : decode cX12_want 5 = .ok (.iload_n 2, 1) := by decide +kernel
theorem dX12_want_6 : decode cX12_want 6 = .ok (.aload_n 0, 1) := by decide +kernel
theorem dX12_want_7 : decode cX12_want 7 = .ok (.getfield 405, 3) := by decide +kernel
theorem dX12_want_10 : decode cX12_want 10 = .ok (.invokevirtual 428, 3) := by decide +kernel
theorem dX12_want_13 : decode cX12_want 13 = .ok (.aload_n 0, 1) := by decide +kernel
theorem dX12_want_14 : decode cX12_want 14 = .ok (.getfield 395, 3) := by decide +kernel
theorem dX12_want_17 : decode cX12_want 17 = .ok (.ifCond .ne 7, 3) := by decide +kernel
theorem dX12_want_20 : decode cX12_want 20 = .ok (.iconst 1, 1) := by decide +kernel
theorem dX12_want_21 : decode cX12_want 21 = .ok (.goto 4, 3) := by decide +kernel
theorem dX12_want_24 : decode cX12_want 24 = .ok (.iconst 0, 1) := by decide +kernel
theorem dX12_want_25 : decode cX12_want 25 = .ok (.ireturn, 1) := by decide +kernel
theorem dX12_need_0 : decode cX12_need 0 = .ok (.aload_n 0, 1) := by decide +kernel
theorem dX12_need_1 : decode cX12_need 1 = .ok (.getfield 395, 3) := by decide +kernel
theorem dX12_need_4 : decode cX12_need 4 = .ok (.ifCond .ne 27, 3) := by decide +kernel
theorem dX12_need_7 : decode cX12_need 7 = .ok (.aload_n 0, 1) := by decide +kernel
theorem dX12_need_8 : decode cX12_need 8 = .ok (.aload_n 0, 1) := by decide +kernel
theorem dX12_need_9 : decode cX12_need 9 = .ok (.getfield 408, 3) := by decide +kernel
theorem dX12_need_12 : decode cX12_need 12 = .ok (.iload_n 1, 1) := by decide +kernel
theorem dX12_need_13 : decode cX12_need 13 = .ok (.if_icmp .ne 7, 3) := by decide +kernel
theorem dX12_need_16 : decode cX12_need 16 = .ok (.iconst 1, 1) := by decide +kernel
theorem dX12_need_17 : decode cX12_need 17 = .ok (.goto 4, 3) := by decide +kernel
theorem dX12_need_20 : decode cX12_need 20 = .ok (.iconst 0, 1) := by decide +kernel
theorem dX12_need_21 : decode cX12_need 21 = .ok (.invokevirtual 432, 3) := by decide +kernel
theorem dX12_need_24 : decode cX12_need 24 = .ok (.ifCond .eq 7, 3) := by decide +kernel
theorem dX12_need_27 : decode cX12_need 27 = .ok (.aload_n 0, 1) := by decide +kernel
theorem dX12_need_28 : decode cX12_need 28 = .ok (.invokevirtual 436, 3) := by decide +kernel
theorem dX12_need_31 : decode cX12_need 31 = .ok (.aload_n 0, 1) := by decide +kernel
theorem dX12_need_32 : decode cX12_need 32 = .ok (.getfield 395, 3) := by decide +kernel
theorem dX12_need_35 : decode cX12_need 35 = .ok (.ifCond .ne 7, 3) := by decide +kernel
theorem dX12_need_38 : decode cX12_need 38 = .ok (.iconst 1, 1) := by decide +kernel
theorem dX12_need_39 : decode cX12_need 39 = .ok (.goto 4, 3) := by decide +kernel
theorem dX12_need_42 : decode cX12_need 42 = .ok (.iconst 0, 1) := by decide +kernel
theorem dX12_need_43 : decode cX12_need 43 = .ok (.ireturn, 1) := by decide +kernel
theorem dX12_emit_0 : decode cX12_emit 0 = .ok (.aload_n 0, 1) := by decide +kernel
theorem dX12_emit_1 : decode cX12_emit 1 = .ok (.getfield 176, 3) := by decide +kernel
theorem dX12_emit_4 : decode cX12_emit 4 = .ok (.aload_n 0, 1) := by decide +kernel
theorem dX12_emit_5 : decode cX12_emit 5 = .ok (.getfield 439, 3) := by decide +kernel
theorem dX12_emit_8 : decode cX12_emit 8 = .ok (.iload_n 1, 1) := by decide +kernel
theorem dX12_emit_9 : decode cX12_emit 9 = .ok (.i2b, 1) := by decide +kernel
theorem dX12_emit_10 : decode cX12_emit 10 = .ok (.bastore, 1) := by decide +kernel
theorem dX12_emit_11 : decode cX12_emit 11 = .ok (.aload_n 0, 1) := by decide +kernel
theorem dX12_emit_12 : decode cX12_emit 12 = .ok (.getfield 179, 3) := by decide +kernel
theorem dX12_emit_15 : decode cX12_emit 15 = .ok (.aload_n 0, 1) := by decide +kernel
theorem dX12_emit_16 : decode cX12_emit 16 = .ok (.getfield 439, 3) := by decide +kernel
theorem dX12_emit_19 : decode cX12_emit 19 = .ok (.iload_n 2, 1) := by decide +kernel
theorem dX12_emit_20 : decode cX12_emit 20 = .ok (.iastore, 1) := by decide +kernel
theorem dX12_emit_21 : decode cX12_emit 21 = .ok (.aload_n 0, 1) := by decide +kernel
theorem dX12_emit_22 : decode cX12_emit 22 = .ok (.getfield 182, 3) := by decide +kernel
theorem dX12_emit_25 : decode cX12_emit 25 = .ok (.aload_n 0, 1) := by decide +kernel
theorem dX12_emit_26 : decode cX12_emit 26 = .ok (.getfield 439, 3) := by decide +kernel
theorem dX12_emit_29 : decode cX12_emit 29 = .ok (.aload_n 0, 1) := by decide +kernel
theorem dX12_emit_30 : decode cX12_emit 30 = .ok (.getfield 442, 3) := by decide +kernel
theorem dX12_emit_33 : decode cX12_emit 33 = .ok (.i2b, 1) := by decide +kernel
theorem dX12_emit_34 : decode cX12_emit 34 = .ok (.bastore, 1) := by decide +kernel
theorem dX12_emit_35 : decode cX12_emit 35 = .ok (.aload_n 0, 1) := by decide +kernel
theorem dX12_emit_36 : decode cX12_emit 36 = .ok (.getfield 185, 3) := by decide +kernel
theorem dX12_emit_39 : decode cX12_emit 39 = .ok (.aload_n 0, 1) := by decide +kernel
theorem dX12_emit_40 : decode cX12_emit 40 = .ok (.getfield 439, 3) := by decide +kernel
theorem dX12_emit_43 : decode cX12_emit 43 = .ok (.aload_n 0, 1) := by decide +kernel
theorem dX12_emit_44 : decode cX12_emit 44 = .ok (.getfield 444, 3) := by decide +kernel
theorem dX12_emit_47 : decode cX12_emit 47 = .ok (.bastore, 1) := by decide +kernel
theorem dX12_emit_48 : decode cX12_emit 48 = .ok (.aload_n 0, 1) := by decide +kernel
theorem dX12_emit_49 : decode cX12_emit 49 = .ok (.dup, 1) := by decide +kernel
theorem dX12_emit_50 : decode cX12_emit 50 = .ok (.getfield 439, 3) := by decide +kernel
theorem dX12_emit_53 : decode cX12_emit 53 = .ok (.iconst 1, 1) := by decide +kernel
theorem dX12_emit_54 : decode cX12_emit 54 = .ok (.iadd, 1) := by decide +kernel
theorem dX12_emit_55 : decode cX12_emit 55 = .ok (.putfield 439, 3) := by decide +kernel
theorem dX12_emit_58 : decode cX12_emit 58 = .ok (.aload_n 0, 1) := by decide +kernel
theorem dX12_emit_59 : decode cX12_emit 59 = .ok (.getfield 439, 3) := by decide +kernel
theorem dX12_emit_62 : decode cX12_emit 62 = .ok (.iconst 1, 1) := by decide +kernel
theorem dX12_emit_63 : decode cX12_emit 63 = .ok (.isub, 1) := by decide +kernel
theorem dX12_emit_64 : decode cX12_emit 64 = .ok (.ireturn, 1) := by decide +kernel
theorem dX12_seenAs_0 : decode cX12_seenAs 0 = .ok (.iconst 0, 1) := by decide +kernel
theorem dX12_seenAs_1 : decode cX12_seenAs 1 = .ok (.istore_n 3, 1) := by decide +kernel
theorem dX12_seenAs_2 : decode cX12_seenAs 2 = .ok (.iload_n 3, 1) := by decide +kernel
theorem dX12_seenAs_3 : decode cX12_seenAs 3 = .ok (.aload_n 0, 1) := by decide +kernel
theorem dX12_seenAs_4 : decode cX12_seenAs 4 = .ok (.getfield 448, 3) := by decide +kernel
theorem dX12_seenAs_7 : decode cX12_seenAs 7 = .ok (.if_icmp .ge 22, 3) := by decide +kernel
theorem dX12_seenAs_10 : decode cX12_seenAs 10 = .ok (.aload_n 0, 1) := by decide +kernel
theorem dX12_seenAs_11 : decode cX12_seenAs 11 = .ok (.getfield 188, 3) := by decide +kernel
theorem dX12_seenAs_14 : decode cX12_seenAs 14 = .ok (.iload_n 3, 1) := by decide +kernel
theorem dX12_seenAs_15 : decode cX12_seenAs 15 = .ok (.laload, 1) := by decide +kernel
theorem dX12_seenAs_16 : decode cX12_seenAs 16 = .ok (.lload_n 1, 1) := by decide +kernel
theorem dX12_seenAs_17 : decode cX12_seenAs 17 = .ok (.lcmp, 1) := by decide +kernel
theorem dX12_seenAs_18 : decode cX12_seenAs 18 = .ok (.ifCond .ne 5, 3) := by decide +kernel
theorem dX12_seenAs_21 : decode cX12_seenAs 21 = .ok (.iload_n 3, 1) := by decide +kernel
theorem dX12_seenAs_22 : decode cX12_seenAs 22 = .ok (.ireturn, 1) := by decide +kernel
theorem dX12_seenAs_23 : decode cX12_seenAs 23 = .ok (.iinc 3 1, 3) := by decide +kernel
theorem dX12_seenAs_26 : decode cX12_seenAs 26 = .ok (.goto (-24), 3) := by decide +kernel
theorem dX12_seenAs_29 : decode cX12_seenAs 29 = .ok (.iconst (-1), 1) := by decide +kernel
theorem dX12_seenAs_30 : decode cX12_seenAs 30 = .ok (.ireturn, 1) := by decide +kernel
theorem dX12_mayBeSeen_0 : decode cX12_mayBeSeen 0 = .ok (.aload_n 0, 1) := by decide +kernel
theorem dX12_mayBeSeen_1 : decode cX12_mayBeSeen 1 = .ok (.getfield 395, 3) := by decide +kernel
theorem dX12_mayBeSeen_4 : decode cX12_mayBeSeen 4 = .ok (.ifCond .ne 74, 3) := by decide +kernel
theorem dX12_mayBeSeen_7 : decode cX12_mayBeSeen 7 = .ok (.aload_n 0, 1) := by decide +kernel
theorem dX12_mayBeSeen_8 : decode cX12_mayBeSeen 8 = .ok (.aload_n 0, 1) := by decide +kernel
theorem dX12_mayBeSeen_9 : decode cX12_mayBeSeen 9 = .ok (.getfield 408, 3) := by decide +kernel
theorem dX12_mayBeSeen_12 : decode cX12_mayBeSeen 12 = .ok (.iconst 1, 1) := by decide +kernel
theorem dX12_mayBeSeen_13 : decode cX12_mayBeSeen 13 = .ok (.if_icmp .ne 7, 3) := by decide +kernel
theorem dX12_mayBeSeen_16 : decode cX12_mayBeSeen 16 = .ok (.iconst 1, 1) := by decide +kernel
theorem dX12_mayBeSeen_17 : decode cX12_mayBeSeen 17 = .ok (.goto 4, 3) := by decide +kernel
theorem dX12_mayBeSeen_20 : decode cX12_mayBeSeen 20 = .ok (.iconst 0, 1) := by decide +kernel
theorem dX12_mayBeSeen_21 : decode cX12_mayBeSeen 21 = .ok (.invokevirtual 432, 3) := by decide +kernel
theorem dX12_mayBeSeen_24 : decode cX12_mayBeSeen 24 = .ok (.ifCond .eq 54, 3) := by decide +kernel
theorem dX12_mayBeSeen_27 : decode cX12_mayBeSeen 27 = .ok (.aload_n 0, 1) := by decide +kernel
theorem dX12_mayBeSeen_28 : decode cX12_mayBeSeen 28 = .ok (.aload_n 0, 1) := by decide +kernel
theorem dX12_mayBeSeen_29 : decode cX12_mayBeSeen 29 = .ok (.aload_n 0, 1) := by decide +kernel
theorem dX12_mayBeSeen_30 : decode cX12_mayBeSeen 30 = .ok (.getfield 415, 3) := by decide +kernel
theorem dX12_mayBeSeen_33 : decode cX12_mayBeSeen 33 = .ok (.invokevirtual 451, 3) := by decide +kernel
theorem dX12_mayBeSeen_36 : decode cX12_mayBeSeen 36 = .ok (.ifCond .ge 7, 3) := by decide +kernel
theorem dX12_mayBeSeen_39 : decode cX12_mayBeSeen 39 = .ok (.iconst 1, 1) := by decide +kernel
theorem dX12_mayBeSeen_40 : decode cX12_mayBeSeen 40 = .ok (.goto 4, 3) := by decide +kernel
theorem dX12_mayBeSeen_43 : decode cX12_mayBeSeen 43 = .ok (.iconst 0, 1) := by decide +kernel
theorem dX12_mayBeSeen_44 : decode cX12_mayBeSeen 44 = .ok (.iconst 3, 1) := by decide +kernel
theorem dX12_mayBeSeen_45 : decode cX12_mayBeSeen 45 = .ok (.invokevirtual 455, 3) := by decide +kernel
theorem dX12_mayBeSeen_48 : decode cX12_mayBeSeen 48 = .ok (.ifCond .eq 30, 3) := by decide +kernel
theorem dX12_mayBeSeen_51 : decode cX12_mayBeSeen 51 = .ok (.aload_n 0, 1) := by decide +kernel
theorem dX12_mayBeSeen_52 : decode cX12_mayBeSeen 52 = .ok (.aload_n 0, 1) := by decide +kernel
theorem dX12_mayBeSeen_53 : decode cX12_mayBeSeen 53 = .ok (.getfield 448, 3) := by decide +kernel
theorem dX12_mayBeSeen_56 : decode cX12_mayBeSeen 56 = .ok (.bipush 10, 2) := by decide +kernel
theorem dX12_mayBeSeen_58 : decode cX12_mayBeSeen 58 = .ok (.if_icmp .ge 7, 3) := by decide +kernel
theorem dX12_mayBeSeen_61 : decode cX12_mayBeSeen 61 = .ok (.iconst 1, 1) := by decide +kernel
theorem dX12_mayBeSeen_62 : decode cX12_mayBeSeen 62 = .ok (.goto 4, 3) := by decide +kernel
theorem dX12_mayBeSeen_65 : decode cX12_mayBeSeen 65 = .ok (.iconst 0, 1) := by decide +kernel
theorem dX12_mayBeSeen_66 : decode cX12_mayBeSeen 66 = .ok (.bipush 6, 2) := by decide +kernel
theorem dX12_mayBeSeen_68 : decode cX12_mayBeSeen 68 = .ok (.invokevirtual 455, 3) := by decide +kernel
theorem dX12_mayBeSeen_71 : decode cX12_mayBeSeen 71 = .ok (.ifCond .eq 7, 3) := by decide +kernel
theorem dX12_mayBeSeen_74 : decode cX12_mayBeSeen 74 = .ok (.iconst 1, 1) := by decide +kernel
theorem dX12_mayBeSeen_75 : decode cX12_mayBeSeen 75 = .ok (.goto 4, 3) := by decide +kernel
theorem dX12_mayBeSeen_78 : decode cX12_mayBeSeen 78 = .ok (.iconst 0, 1) := by decide +kernel
theorem dX12_mayBeSeen_79 : decode cX12_mayBeSeen 79 = .ok (.ireturn, 1) := by decide +kernel
theorem dX12_see_0 : decode cX12_see 0 = .ok (.aload_n 0, 1) := by decide +kernel
theorem dX12_see_1 : decode cX12_see 1 = .ok (.getfield 395, 3) := by decide +kernel
theorem dX12_see_4 : decode cX12_see 4 = .ok (.ifCond .ne 23, 3) := by decide +kernel
theorem dX12_see_7 : decode cX12_see 7 = .ok (.aload_n 0, 1) := by decide +kernel
theorem dX12_see_8 : decode cX12_see 8 = .ok (.getfield 188, 3) := by decide +kernel
theorem dX12_see_11 : decode cX12_see 11 = .ok (.aload_n 0, 1) := by decide +kernel
theorem dX12_see_12 : decode cX12_see 12 = .ok (.getfield 448, 3) := by decide +kernel
theorem dX12_see_15 : decode cX12_see 15 = .ok (.lload_n 1, 1) := by decide +kernel
theorem dX12_see_16 : decode cX12_see 16 = .ok (.lastore, 1) := by decide +kernel
theorem dX12_see_17 : decode cX12_see 17 = .ok (.aload_n 0, 1) := by decide +kernel
theorem dX12_see_18 : decode cX12_see 18 = .ok (.dup, 1) := by decide +kernel
theorem dX12_see_19 : decode cX12_see 19 = .ok (.getfield 448, 3) := by decide +kernel
theorem dX12_see_22 : decode cX12_see 22 = .ok (.iconst 1, 1) := by decide +kernel
theorem dX12_see_23 : decode cX12_see 23 = .ok (.iadd, 1) := by decide +kernel
theorem dX12_see_24 : decode cX12_see 24 = .ok (.putfield 448, 3) := by decide +kernel
theorem dX12_see_27 : decode cX12_see 27 = .ok (.return_, 1) := by decide +kernel
theorem dX12_opens_0 : decode cX12_opens 0 = .ok (.aload_n 0, 1) := by decide +kernel
theorem dX12_opens_1 : decode cX12_opens 1 = .ok (.dup, 1) := by decide +kernel
theorem dX12_opens_2 : decode cX12_opens 2 = .ok (.getfield 459, 3) := by decide +kernel
theorem dX12_opens_5 : decode cX12_opens 5 = .ok (.iconst 1, 1) := by decide +kernel
theorem dX12_opens_6 : decode cX12_opens 6 = .ok (.iadd, 1) := by decide +kernel
theorem dX12_opens_7 : decode cX12_opens 7 = .ok (.putfield 459, 3) := by decide +kernel
theorem dX12_opens_10 : decode cX12_opens 10 = .ok (.aload_n 0, 1) := by decide +kernel
theorem dX12_opens_11 : decode cX12_opens 11 = .ok (.aload_n 0, 1) := by decide +kernel
theorem dX12_opens_12 : decode cX12_opens 12 = .ok (.getfield 459, 3) := by decide +kernel
theorem dX12_opens_15 : decode cX12_opens 15 = .ok (.bipush 20, 2) := by decide +kernel
theorem dX12_opens_17 : decode cX12_opens 17 = .ok (.if_icmp .gt 7, 3) := by decide +kernel
theorem dX12_opens_20 : decode cX12_opens 20 = .ok (.iconst 1, 1) := by decide +kernel
theorem dX12_opens_21 : decode cX12_opens 21 = .ok (.goto 4, 3) := by decide +kernel
theorem dX12_opens_24 : decode cX12_opens 24 = .ok (.iconst 0, 1) := by decide +kernel
theorem dX12_opens_25 : decode cX12_opens 25 = .ok (.bipush 6, 2) := by decide +kernel
theorem dX12_opens_27 : decode cX12_opens 27 = .ok (.invokevirtual 455, 3) := by decide +kernel
theorem dX12_opens_30 : decode cX12_opens 30 = .ok (.ireturn, 1) := by decide +kernel
theorem dX12_use_0 : decode cX12_use 0 = .ok (.aload_n 0, 1) := by decide +kernel
theorem dX12_use_1 : decode cX12_use 1 = .ok (.getfield 462, 3) := by decide +kernel
theorem dX12_use_4 : decode cX12_use 4 = .ok (.istore_n 1, 1) := by decide +kernel
theorem dX12_use_5 : decode cX12_use 5 = .ok (.aload_n 0, 1) := by decide +kernel
theorem dX12_use_6 : decode cX12_use 6 = .ok (.dup, 1) := by decide +kernel
theorem dX12_use_7 : decode cX12_use 7 = .ok (.getfield 462, 3) := by decide +kernel
theorem dX12_use_10 : decode cX12_use 10 = .ok (.iconst 1, 1) := by decide +kernel
theorem dX12_use_11 : decode cX12_use 11 = .ok (.iadd, 1) := by decide +kernel
theorem dX12_use_12 : decode cX12_use 12 = .ok (.putfield 462, 3) := by decide +kernel
theorem dX12_use_15 : decode cX12_use 15 = .ok (.aload_n 0, 1) := by decide +kernel
theorem dX12_use_16 : decode cX12_use 16 = .ok (.getfield 197, 3) := by decide +kernel
theorem dX12_use_19 : decode cX12_use 19 = .ok (.iload_n 1, 1) := by decide +kernel
theorem dX12_use_20 : decode cX12_use 20 = .ok (.lconst 0, 1) := by decide +kernel
theorem dX12_use_21 : decode cX12_use 21 = .ok (.lastore, 1) := by decide +kernel
theorem dX12_use_22 : decode cX12_use 22 = .ok (.aload_n 0, 1) := by decide +kernel
theorem dX12_use_23 : decode cX12_use 23 = .ok (.getfield 203, 3) := by decide +kernel
theorem dX12_use_26 : decode cX12_use 26 = .ok (.iload_n 1, 1) := by decide +kernel
theorem dX12_use_27 : decode cX12_use 27 = .ok (.aload_n 0, 1) := by decide +kernel
theorem dX12_use_28 : decode cX12_use 28 = .ok (.getfield 415, 3) := by decide +kernel
theorem dX12_use_31 : decode cX12_use 31 = .ok (.lastore, 1) := by decide +kernel
theorem dX12_use_32 : decode cX12_use 32 = .ok (.aload_n 0, 1) := by decide +kernel
theorem dX12_use_33 : decode cX12_use 33 = .ok (.getfield 206, 3) := by decide +kernel
theorem dX12_use_36 : decode cX12_use 36 = .ok (.iload_n 1, 1) := by decide +kernel
theorem dX12_use_37 : decode cX12_use 37 = .ok (.aload_n 0, 1) := by decide +kernel
theorem dX12_use_38 : decode cX12_use 38 = .ok (.getfield 405, 3) := by decide +kernel
theorem dX12_use_41 : decode cX12_use 41 = .ok (.iastore, 1) := by decide +kernel
theorem dX12_use_42 : decode cX12_use 42 = .ok (.aload_n 0, 1) := by decide +kernel
theorem dX12_use_43 : decode cX12_use 43 = .ok (.getfield 212, 3) := by decide +kernel
theorem dX12_use_46 : decode cX12_use 46 = .ok (.iload_n 1, 1) := by decide +kernel
theorem dX12_use_47 : decode cX12_use 47 = .ok (.aload_n 0, 1) := by decide +kernel
theorem dX12_use_48 : decode cX12_use 48 = .ok (.getfield 442, 3) := by decide +kernel
theorem dX12_use_51 : decode cX12_use 51 = .ok (.iastore, 1) := by decide +kernel
theorem dX12_use_52 : decode cX12_use 52 = .ok (.aload_n 0, 1) := by decide +kernel
theorem dX12_use_53 : decode cX12_use 53 = .ok (.invokevirtual 436, 3) := by decide +kernel
theorem dX12_use_56 : decode cX12_use 56 = .ok (.aload_n 0, 1) := by decide +kernel
theorem dX12_use_57 : decode cX12_use 57 = .ok (.getfield 395, 3) := by decide +kernel
theorem dX12_use_60 : decode cX12_use 60 = .ok (.ifCond .ne 84, 3) := by decide +kernel
theorem dX12_use_63 : decode cX12_use 63 = .ok (.aload_n 0, 1) := by decide +kernel
theorem dX12_use_64 : decode cX12_use 64 = .ok (.getfield 408, 3) := by decide +kernel
theorem dX12_use_67 : decode cX12_use 67 = .ok (.bipush 46, 2) := by decide +kernel
theorem dX12_use_69 : decode cX12_use 69 = .ok (.if_icmp .ne 75, 3) := by decide +kernel
theorem dX12_use_72 : decode cX12_use 72 = .ok (.aload_n 0, 1) := by decide +kernel
theorem dX12_use_73 : decode cX12_use 73 = .ok (.invokevirtual 436, 3) := by decide +kernel
theorem dX12_use_76 : decode cX12_use 76 = .ok (.aload_n 0, 1) := by decide +kernel
theorem dX12_use_77 : decode cX12_use 77 = .ok (.aload_n 0, 1) := by decide +kernel
theorem dX12_use_78 : decode cX12_use 78 = .ok (.getfield 408, 3) := by decide +kernel
theorem dX12_use_81 : decode cX12_use 81 = .ok (.iconst 1, 1) := by decide +kernel
theorem dX12_use_82 : decode cX12_use 82 = .ok (.if_icmp .ne 7, 3) := by decide +kernel
theorem dX12_use_85 : decode cX12_use 85 = .ok (.iconst 1, 1) := by decide +kernel
theorem dX12_use_86 : decode cX12_use 86 = .ok (.goto 4, 3) := by decide +kernel
theorem dX12_use_89 : decode cX12_use 89 = .ok (.iconst 0, 1) := by decide +kernel
theorem dX12_use_90 : decode cX12_use 90 = .ok (.invokevirtual 432, 3) := by decide +kernel
theorem dX12_use_93 : decode cX12_use 93 = .ok (.ifCond .eq 51, 3) := by decide +kernel
theorem dX12_use_96 : decode cX12_use 96 = .ok (.aload_n 0, 1) := by decide +kernel
theorem dX12_use_97 : decode cX12_use 97 = .ok (.getfield 197, 3) := by decide +kernel
theorem dX12_use_100 : decode cX12_use 100 = .ok (.iload_n 1, 1) := by decide +kernel
theorem dX12_use_101 : decode cX12_use 101 = .ok (.aload_n 0, 1) := by decide +kernel
theorem dX12_use_102 : decode cX12_use 102 = .ok (.getfield 203, 3) := by decide +kernel
theorem dX12_use_105 : decode cX12_use 105 = .ok (.iload_n 1, 1) := by decide +kernel
theorem dX12_use_106 : decode cX12_use 106 = .ok (.laload, 1) := by decide +kernel
theorem dX12_use_107 : decode cX12_use 107 = .ok (.lastore, 1) := by decide +kernel
theorem dX12_use_108 : decode cX12_use 108 = .ok (.aload_n 0, 1) := by decide +kernel
theorem dX12_use_109 : decode cX12_use 109 = .ok (.getfield 200, 3) := by decide +kernel
theorem dX12_use_112 : decode cX12_use 112 = .ok (.iload_n 1, 1) := by decide +kernel
theorem dX12_use_113 : decode cX12_use 113 = .ok (.aload_n 0, 1) := by decide +kernel
theorem dX12_use_114 : decode cX12_use 114 = .ok (.getfield 206, 3) := by decide +kernel
theorem dX12_use_117 : decode cX12_use 117 = .ok (.iload_n 1, 1) := by decide +kernel
theorem dX12_use_118 : decode cX12_use 118 = .ok (.iaload, 1) := by decide +kernel
theorem dX12_use_119 : decode cX12_use 119 = .ok (.iastore, 1) := by decide +kernel
theorem dX12_use_120 : decode cX12_use 120 = .ok (.aload_n 0, 1) := by decide +kernel
theorem dX12_use_121 : decode cX12_use 121 = .ok (.getfield 203, 3) := by decide +kernel
theorem dX12_use_124 : decode cX12_use 124 = .ok (.iload_n 1, 1) := by decide +kernel
theorem dX12_use_125 : decode cX12_use 125 = .ok (.aload_n 0, 1) := by decide +kernel
theorem dX12_use_126 : decode cX12_use 126 = .ok (.getfield 415, 3) := by decide +kernel
theorem dX12_use_129 : decode cX12_use 129 = .ok (.lastore, 1) := by decide +kernel
theorem dX12_use_130 : decode cX12_use 130 = .ok (.aload_n 0, 1) := by decide +kernel
theorem dX12_use_131 : decode cX12_use 131 = .ok (.getfield 206, 3) := by decide +kernel
theorem dX12_use_134 : decode cX12_use 134 = .ok (.iload_n 1, 1) := by decide +kernel
theorem dX12_use_135 : decode cX12_use 135 = .ok (.aload_n 0, 1) := by decide +kernel
theorem dX12_use_136 : decode cX12_use 136 = .ok (.getfield 405, 3) := by decide +kernel
theorem dX12_use_139 : decode cX12_use 139 = .ok (.iastore, 1) := by decide +kernel
theorem dX12_use_140 : decode cX12_use 140 = .ok (.aload_n 0, 1) := by decide +kernel
theorem dX12_use_141 : decode cX12_use 141 = .ok (.invokevirtual 436, 3) := by decide +kernel
theorem dX12_use_144 : decode cX12_use 144 = .ok (.iload_n 1, 1) := by decide +kernel
theorem dX12_use_145 : decode cX12_use 145 = .ok (.ireturn, 1) := by decide +kernel
theorem dX12_used_0 : decode cX12_used 0 = .ok (.aload_n 0, 1) := by decide +kernel
theorem dX12_used_1 : decode cX12_used 1 = .ok (.getfield 194, 3) := by decide +kernel
theorem dX12_used_4 : decode cX12_used 4 = .ok (.iload_n 1, 1) := by decide +kernel
