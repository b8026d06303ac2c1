theorem dX0_init_0 : decode cX0_init 0 = .ok (.aload_n 0, 1) := by decide +kernel
theorem dX0_init_1 : decode cX0_init 1 = .ok (.invokespecial 3, 3) := by decide +kernel
theorem dX0_init_4 : decode cX0_init 4 = .ok (.aload_n 0, 1) := by decide +kernel
theorem dX0_init_5 : decode cX0_init 5 = .ok (.bipush 8, 2) := by decide +kernel
theorem dX0_init_7 : decode cX0_init 7 = .ok (.newarray .int, 2) := by decide +kernel
theorem dX0_init_9 : decode cX0_init 9 = .ok (.putfield 9, 3) := by decide +kernel
theorem dX0_init_12 : decode cX0_init 12 = .ok (.aload_n 0, 1) := by decide +kernel
theorem dX0_init_13 : decode cX0_init 13 = .ok (.aload_n 1, 1) := by decide +kernel
theorem dX0_init_14 : decode cX0_init 14 = .ok (.putfield 15, 3) := by decide +kernel
theorem dX0_init_17 : decode cX0_init 17 = .ok (.aload_n 0, 1) := by decide +kernel
theorem dX0_init_18 : decode cX0_init 18 = .ok (.aload_n 2, 1) := by decide +kernel
theorem dX0_init_19 : decode cX0_init 19 = .ok (.putfield 19, 3) := by decide +kernel
theorem dX0_init_22 : decode cX0_init 22 = .ok (.iconst 0, 1) := by decide +kernel
theorem dX0_init_23 : decode cX0_init 23 = .ok (.istore_n 3, 1) := by decide +kernel
theorem dX0_init_24 : decode cX0_init 24 = .ok (.iload_n 3, 1) := by decide +kernel
theorem dX0_init_25 : decode cX0_init 25 = .ok (.bipush 8, 2) := by decide +kernel
theorem dX0_init_27 : decode cX0_init 27 = .ok (.if_icmp .ge 49, 3) := by decide +kernel
theorem dX0_init_30 : decode cX0_init 30 = .ok (.aload_n 0, 1) := by decide +kernel
theorem dX0_init_31 : decode cX0_init 31 = .ok (.getfield 9, 3) := by decide +kernel
theorem dX0_init_34 : decode cX0_init 34 = .ok (.iload_n 3, 1) := by decide +kernel
theorem dX0_init_35 : decode cX0_init 35 = .ok (.iload_n 3, 1) := by decide +kernel
theorem dX0_init_36 : decode cX0_init 36 = .ok (.aload_n 1, 1) := by decide +kernel
theorem dX0_init_37 : decode cX0_init 37 = .ok (.getfield 22, 3) := by decide +kernel
theorem dX0_init_40 : decode cX0_init 40 = .ok (.invokevirtual 28, 3) := by decide +kernel
theorem dX0_init_43 : decode cX0_init 43 = .ok (.if_icmp .ge 24, 3) := by decide +kernel
theorem dX0_init_46 : decode cX0_init 46 = .ok (.aload_n 2, 1) := by decide +kernel
theorem dX0_init_47 : decode cX0_init 47 = .ok (.aload_n 1, 1) := by decide +kernel
theorem dX0_init_48 : decode cX0_init 48 = .ok (.getfield 22, 3) := by decide +kernel
theorem dX0_init_51 : decode cX0_init 51 = .ok (.iload_n 3, 1) := by decide +kernel
theorem dX0_init_52 : decode cX0_init 52 = .ok (.invokevirtual 34, 3) := by decide +kernel
theorem dX0_init_55 : decode cX0_init 55 = .ok (.checkcast 38, 3) := by decide +kernel
theorem dX0_init_58 : decode cX0_init 58 = .ok (.getfield 40, 3) := by decide +kernel
theorem dX0_init_61 : decode cX0_init 61 = .ok (.invokestatic 44, 3) := by decide +kernel
theorem dX0_init_64 : decode cX0_init 64 = .ok (.goto 5, 3) := by decide +kernel
theorem dX0_init_67 : decode cX0_init 67 = .ok (.bipush (-2), 2) := by decide +kernel
theorem dX0_init_69 : decode cX0_init 69 = .ok (.iastore, 1) := by decide +kernel
theorem dX0_init_70 : decode cX0_init 70 = .ok (.iinc 3 1, 3) := by decide +kernel
theorem dX0_init_73 : decode cX0_init 73 = .ok (.goto (-49), 3) := by decide +kernel
theorem dX0_init_76 : decode cX0_init 76 = .ok (.aload_n 0, 1) := by decide +kernel
theorem dX0_init_77 : decode cX0_init 77 = .ok (.aload_n 1, 1) := by decide +kernel
theorem dX0_init_78 : decode cX0_init 78 = .ok (.getfield 48, 3) := by decide +kernel
theorem dX0_init_81 : decode cX0_init 81 = .ok (.invokevirtual 28, 3) := by decide +kernel
theorem dX0_init_84 : decode cX0_init 84 = .ok (.newarray .int, 2) := by decide +kernel
theorem dX0_init_86 : decode cX0_init 86 = .ok (.putfield 51, 3) := by decide +kernel
theorem dX0_init_89 : decode cX0_init 89 = .ok (.iconst 0, 1) := by decide +kernel
theorem dX0_init_90 : decode cX0_init 90 = .ok (.istore_n 3, 1) := by decide +kernel
theorem dX0_init_91 : decode cX0_init 91 = .ok (.iload_n 3, 1) := by decide +kernel
theorem dX0_init_92 : decode cX0_init 92 = .ok (.aload_n 0, 1) := by decide +kernel
theorem dX0_init_93 : decode cX0_init 93 = .ok (.getfield 51, 3) := by decide +kernel
theorem dX0_init_96 : decode cX0_init 96 = .ok (.arraylength, 1) := by decide +kernel
theorem dX0_init_97 : decode cX0_init 97 = .ok (.if_icmp .ge 58, 3) := by decide +kernel
theorem dX0_init_100 : decode cX0_init 100 = .ok (.aload_n 1, 1) := by decide +kernel
theorem dX0_init_101 : decode cX0_init 101 = .ok (.getfield 48, 3) := by decide +kernel
theorem dX0_init_104 : decode cX0_init 104 = .ok (.iload_n 3, 1) := by decide +kernel
theorem dX0_init_105 : decode cX0_init 105 = .ok (.invokevirtual 34, 3) := by decide +kernel
theorem dX0_init_108 : decode cX0_init 108 = .ok (.checkcast 54, 3) := by decide +kernel
theorem dX0_init_111 : decode cX0_init 111 = .ok (.astore 4, 2) := by decide +kernel
theorem dX0_init_113 : decode cX0_init 113 = .ok (.aload_n 0, 1) := by decide +kernel
theorem dX0_init_114 : decode cX0_init 114 = .ok (.getfield 9, 3) := by decide +kernel
theorem dX0_init_117 : decode cX0_init 117 = .ok (.aload 4, 2) := by decide +kernel
theorem dX0_init_119 : decode cX0_init 119 = .ok (.getfield 56, 3) := by decide +kernel
theorem dX0_init_122 : decode cX0_init 122 = .ok (.iaload, 1) := by decide +kernel
theorem dX0_init_123 : decode cX0_init 123 = .ok (.istore 5, 2) := by decide +kernel
theorem dX0_init_125 : decode cX0_init 125 = .ok (.aload_n 0, 1) := by decide +kernel
theorem dX0_init_126 : decode cX0_init 126 = .ok (.getfield 51, 3) := by decide +kernel
theorem dX0_init_129 : decode cX0_init 129 = .ok (.iload_n 3, 1) := by decide +kernel
theorem dX0_init_130 : decode cX0_init 130 = .ok (.iload 5, 2) := by decide +kernel
theorem dX0_init_132 : decode cX0_init 132 = .ok (.ifCond .ge 8, 3) := by decide +kernel
theorem dX0_init_135 : decode cX0_init 135 = .ok (.bipush (-2), 2) := by decide +kernel
theorem dX0_init_137 : decode cX0_init 137 = .ok (.goto 11, 3) := by decide +kernel
theorem dX0_init_140 : decode cX0_init 140 = .ok (.aload_n 2, 1) := by decide +kernel
theorem dX0_init_141 : decode cX0_init 141 = .ok (.iload 5, 2) := by decide +kernel
theorem dX0_init_143 : decode cX0_init 143 = .ok (.aload 4, 2) := by decide +kernel
theorem dX0_init_145 : decode cX0_init 145 = .ok (.invokestatic 60, 3) := by decide +kernel
theorem dX0_init_148 : decode cX0_init 148 = .ok (.iastore, 1) := by decide +kernel
theorem dX0_init_149 : decode cX0_init 149 = .ok (.iinc 3 1, 3) := by decide +kernel
theorem dX0_init_152 : decode cX0_init 152 = .ok (.goto (-61), 3) := by decide +kernel
theorem dX0_init_155 : decode cX0_init 155 = .ok (.return_, 1) := by decide +kernel
theorem dX0_unitNamed_0 : decode cX0_unitNamed 0 = .ok (.iconst 0, 1) := by decide +kernel
theorem dX0_unitNamed_1 : decode cX0_unitNamed 1 = .ok (.istore_n 3, 1) := by decide +kernel
theorem dX0_unitNamed_2 : decode cX0_unitNamed 2 = .ok (.iload_n 3, 1) := by decide +kernel
theorem dX0_unitNamed_3 : decode cX0_unitNamed 3 = .ok (.aload_n 0, 1) := by decide +kernel
theorem dX0_unitNamed_4 : decode cX0_unitNamed 4 = .ok (.getfield 22, 3) := by decide +kernel
theorem dX0_unitNamed_7 : decode cX0_unitNamed 7 = .ok (.invokevirtual 28, 3) := by decide +kernel
theorem dX0_unitNamed_10 : decode cX0_unitNamed 10 = .ok (.if_icmp .ge 30, 3) := by decide +kernel
theorem dX0_unitNamed_13 : decode cX0_unitNamed 13 = .ok (.aload_n 0, 1) := by decide +kernel
theorem dX0_unitNamed_14 : decode cX0_unitNamed 14 = .ok (.getfield 22, 3) := by decide +kernel
theorem dX0_unitNamed_17 : decode cX0_unitNamed 17 = .ok (.iload_n 3, 1) := by decide +kernel
theorem dX0_unitNamed_18 : decode cX0_unitNamed 18 = .ok (.invokevirtual 34, 3) := by decide +kernel
theorem dX0_unitNamed_21 : decode cX0_unitNamed 21 = .ok (.checkcast 38, 3) := by decide +kernel
theorem dX0_unitNamed_24 : decode cX0_unitNamed 24 = .ok (.getfield 40, 3) := by decide +kernel
theorem dX0_unitNamed_27 : decode cX0_unitNamed 27 = .ok (.lload_n 1, 1) := by decide +kernel
theorem dX0_unitNamed_28 : decode cX0_unitNamed 28 = .ok (.lcmp, 1) := by decide +kernel
theorem dX0_unitNamed_29 : decode cX0_unitNamed 29 = .ok (.ifCond .ne 5, 3) := by decide +kernel
theorem dX0_unitNamed_32 : decode cX0_unitNamed 32 = .ok (.iload_n 3, 1) := by decide +kernel
theorem dX0_unitNamed_33 : decode cX0_unitNamed 33 = .ok (.ireturn, 1) := by decide +kernel
theorem dX0_unitNamed_34 : decode cX0_unitNamed 34 = .ok (.iinc 3 1, 3) := by decide +kernel
theorem dX0_unitNamed_37 : decode cX0_unitNamed 37 = .ok (.goto (-35), 3) := by decide +kernel
theorem dX0_unitNamed_40 : decode cX0_unitNamed 40 = .ok (.bipush (-2), 2) := by decide +kernel
theorem dX0_unitNamed_42 : decode cX0_unitNamed 42 = .ok (.ireturn, 1) := by decide +kernel
theorem dX0_linkTo_0 : decode cX0_linkTo 0 = .ok (.aload_n 0, 1) := by decide +kernel
theorem dX0_linkTo_1 : decode cX0_linkTo 1 = .ok (.getfield 22, 3) := by decide +kernel
theorem dX0_linkTo_4 : decode cX0_linkTo 4 = .ok (.iload_n 1, 1) := by decide +kernel
theorem dX0_linkTo_5 : decode cX0_linkTo 5 = .ok (.invokevirtual 34, 3) := by decide +kernel
theorem dX0_linkTo_8 : decode cX0_linkTo 8 = .ok (.checkcast 38, 3) := by decide +kernel
theorem dX0_linkTo_11 : decode cX0_linkTo 11 = .ok (.astore_n 3, 1) := by decide +kernel
theorem dX0_linkTo_12 : decode cX0_linkTo 12 = .ok (.aload_n 3, 1) := by decide +kernel
theorem dX0_linkTo_13 : decode cX0_linkTo 13 = .ok (.getfield 64, 3) := by decide +kernel
theorem dX0_linkTo_16 : decode cX0_linkTo 16 = .ok (.istore 4, 2) := by decide +kernel
theorem dX0_linkTo_18 : decode cX0_linkTo 18 = .ok (.iload 4, 2) := by decide +kernel
theorem dX0_linkTo_20 : decode cX0_linkTo 20 = .ok (.aload_n 3, 1) := by decide +kernel
theorem dX0_linkTo_21 : decode cX0_linkTo 21 = .ok (.getfield 67, 3) := by decide +kernel
theorem dX0_linkTo_24 : decode cX0_linkTo 24 = .ok (.if_icmp .ge 107, 3) := by decide +kernel
theorem dX0_linkTo_27 : decode cX0_linkTo 27 = .ok (.aload_n 0, 1) := by decide +kernel
theorem dX0_linkTo_28 : decode cX0_linkTo 28 = .ok (.getfield 48, 3) := by decide +kernel
theorem dX0_linkTo_31 : decode cX0_linkTo 31 = .ok (.iload 4, 2) := by decide +kernel
theorem dX0_linkTo_33 : decode cX0_linkTo 33 = .ok (.invokevirtual 34, 3) := by decide +kernel
theorem dX0_linkTo_36 : decode cX0_linkTo 36 = .ok (.checkcast 54, 3) := by decide +kernel
theorem dX0_linkTo_39 : decode cX0_linkTo 39 = .ok (.astore 5, 2) := by decide +kernel
theorem dX0_linkTo_41 : decode cX0_linkTo 41 = .ok (.aload 5, 2) := by decide +kernel
theorem dX0_linkTo_43 : decode cX0_linkTo 43 = .ok (.getfield 70, 3) := by decide +kernel
theorem dX0_linkTo_46 : decode cX0_linkTo 46 = .ok (.aload_n 2, 1) := by decide +kernel
theorem dX0_linkTo_47 : decode cX0_linkTo 47 = .ok (.getfield 70, 3) := by decide +kernel
theorem dX0_linkTo_50 : decode cX0_linkTo 50 = .ok (.lcmp, 1) := by decide +kernel
theorem dX0_linkTo_51 : decode cX0_linkTo 51 = .ok (.ifCond .ne 74, 3) := by decide +kernel
theorem dX0_linkTo_54 : decode cX0_linkTo 54 = .ok (.aload 5, 2) := by decide +kernel
theorem dX0_linkTo_56 : decode cX0_linkTo 56 = .ok (.getfield 71, 3) := by decide +kernel
theorem dX0_linkTo_59 : decode cX0_linkTo 59 = .ok (.iconst 4, 1) := by decide +kernel
theorem dX0_linkTo_60 : decode cX0_linkTo 60 = .ok (.if_icmp .ne 15, 3) := by decide +kernel
theorem dX0_linkTo_63 : decode cX0_linkTo 63 = .ok (.aload 5, 2) := by decide +kernel
theorem dX0_linkTo_65 : decode cX0_linkTo 65 = .ok (.getfield 74, 3) := by decide +kernel
theorem dX0_linkTo_68 : decode cX0_linkTo 68 = .ok (.aload_n 2, 1) := by decide +kernel
theorem dX0_linkTo_69 : decode cX0_linkTo 69 = .ok (.getfield 74, 3) := by decide +kernel
theorem dX0_linkTo_72 : decode cX0_linkTo 72 = .ok (.if_icmp .ne 7, 3) := by decide +kernel
theorem dX0_linkTo_75 : decode cX0_linkTo 75 = .ok (.iconst 1, 1) := by decide +kernel
theorem dX0_linkTo_76 : decode cX0_linkTo 76 = .ok (.goto 4, 3) := by decide +kernel
theorem dX0_linkTo_79 : decode cX0_linkTo 79 = .ok (.iconst 0, 1) := by decide +kernel
theorem dX0_linkTo_80 : decode cX0_linkTo 80 = .ok (.istore 6, 2) := by decide +kernel
theorem dX0_linkTo_82 : decode cX0_linkTo 82 = .ok (.aload 5, 2) := by decide +kernel
theorem dX0_linkTo_84 : decode cX0_linkTo 84 = .ok (.getfield 71, 3) := by decide +kernel
theorem dX0_linkTo_87 : decode cX0_linkTo 87 = .ok (.aload_n 2, 1) := by decide +kernel
theorem dX0_linkTo_88 : decode cX0_linkTo 88 = .ok (.getfield 71, 3) := by decide +kernel
theorem dX0_linkTo_91 : decode cX0_linkTo 91 = .ok (.if_icmp .eq 8, 3) := by decide +kernel
theorem dX0_linkTo_94 : decode cX0_linkTo 94 = .ok (.bipush (-11), 2) := by decide +kernel
theorem dX0_linkTo_96 : decode cX0_linkTo 96 = .ok (.goto 28, 3) := by decide +kernel
theorem dX0_linkTo_99 : decode cX0_linkTo 99 = .ok (.aload 5, 2) := by decide +kernel
theorem dX0_linkTo_101 : decode cX0_linkTo 101 = .ok (.getfield 77, 3) := by decide +kernel
theorem dX0_linkTo_104 : decode cX0_linkTo 104 = .ok (.ifCond .eq 8, 3) := by decide +kernel
theorem dX0_linkTo_107 : decode cX0_linkTo 107 = .ok (.bipush (-12), 2) := by decide +kernel
theorem dX0_linkTo_109 : decode cX0_linkTo 109 = .ok (.goto 15, 3) := by decide +kernel
theorem dX0_linkTo_112 : decode cX0_linkTo 112 = .ok (.iload 6, 2) := by decide +kernel
theorem dX0_linkTo_114 : decode cX0_linkTo 114 = .ok (.ifCond .eq 8, 3) := by decide +kernel
theorem dX0_linkTo_117 : decode cX0_linkTo 117 = .ok (.iload 4, 2) := by decide +kernel
theorem dX0_linkTo_119 : decode cX0_linkTo 119 = .ok (.goto 5, 3) := by decide +kernel
theorem dX0_linkTo_122 : decode cX0_linkTo 122 = .ok (.bipush (-13), 2) := by decide +kernel
theorem dX0_linkTo_124 : decode cX0_linkTo 124 = .ok (.ireturn, 1) := by decide +kernel
theorem dX0_linkTo_125 : decode cX0_linkTo 125 = .ok (.iinc 4 1, 3) := by decide +kernel
theorem dX0_linkTo_128 : decode cX0_linkTo 128 = .ok (.goto (-110), 3) := by decide +kernel
theorem dX0_linkTo_131 : decode cX0_linkTo 131 = .ok (.bipush (-10), 2) := by decide +kernel
theorem dX0_linkTo_133 : decode cX0_linkTo 133 = .ok (.ireturn, 1) := by decide +kernel
theorem dX0_isReplaced_0 : decode cX0_isReplaced 0 = .ok (.iload_n 1, 1) := by decide +kernel
theorem dX0_isReplaced_1 : decode cX0_isReplaced 1 = .ok (.ifCond .lt 22, 3) := by decide +kernel
theorem dX0_isReplaced_4 : decode cX0_isReplaced 4 = .ok (.iload_n 1, 1) := by decide +kernel
theorem dX0_isReplaced_5 : decode cX0_isReplaced 5 = .ok (.bipush 8, 2) := by decide +kernel
theorem dX0_isReplaced_7 : decode cX0_isReplaced 7 = .ok (.if_icmp .ge 16, 3) := by decide +kernel
theorem dX0_isReplaced_10 : decode cX0_isReplaced 10 = .ok (.aload_n 0, 1) := by decide +kernel
theorem dX0_isReplaced_11 : decode cX0_isReplaced 11 = .ok (.getfield 9, 3) := by decide +kernel
theorem dX0_isReplaced_14 : decode cX0_isReplaced 14 = .ok (.iload_n 1, 1) := by decide +kernel
theorem dX0_isReplaced_15 : decode cX0_isReplaced 15 = .ok (.iaload, 1) := by decide +kernel
theorem dX0_isReplaced_16 : decode cX0_isReplaced 16 = .ok (.ifCond .lt 7, 3) := by decide +kernel
theorem dX0_isReplaced_19 : decode cX0_isReplaced 19 = .ok (.iconst 1, 1) := by decide +kernel
theorem dX0_isReplaced_20 : decode cX0_isReplaced 20 = .ok (.goto 4, 3) := by decide +kernel
theorem dX0_isReplaced_23 : decode cX0_isReplaced 23 = .ok (.iconst 0, 1) := by decide +kernel
theorem dX0_isReplaced_24 : decode cX0_isReplaced 24 = .ok (.ireturn, 1) := by decide +kernel
theorem dX0_linkOf_0 : decode cX0_linkOf 0 = .ok (.iload_n 1, 1) := by decide +kernel
theorem dX0_linkOf_1 : decode cX0_linkOf 1 = .ok (.ifCond .lt 12, 3) := by decide +kernel
theorem dX0_linkOf_4 : decode cX0_linkOf 4 = .ok (.iload_n 1, 1) := by decide +kernel
theorem dX0_linkOf_5 : decode cX0_linkOf 5 = .ok (.aload_n 0, 1) := by decide +kernel
theorem dX0_linkOf_6 : decode cX0_linkOf 6 = .ok (.getfield 51, 3) := by decide +kernel
theorem dX0_linkOf_9 : decode cX0_linkOf 9 = .ok (.arraylength, 1) := by decide +kernel
theorem dX0_linkOf_10 : decode cX0_linkOf 10 = .ok (.if_icmp .lt 8, 3) := by decide +kernel
theorem dX0_linkOf_13 : decode cX0_linkOf 13 = .ok (.bipush (-2), 2) := by decide +kernel
theorem dX0_linkOf_15 : decode cX0_linkOf 15 = .ok (.goto 9, 3) := by decide +kernel
theorem dX0_linkOf_18 : decode cX0_linkOf 18 = .ok (.aload_n 0, 1) := by decide +kernel
theorem dX0_linkOf_19 : decode cX0_linkOf 19 = .ok (.getfield 51, 3) := by decide +kernel
theorem dX0_linkOf_22 : decode cX0_linkOf 22 = .ok (.iload_n 1, 1) := by decide +kernel
theorem dX0_linkOf_23 : decode cX0_linkOf 23 = .ok (.iaload, 1) := by decide +kernel
theorem dX0_linkOf_24 : decode cX0_linkOf 24 = .ok (.ireturn, 1) := by decide +kernel
theorem dX1_init_0 : decode cX1_init 0 = .ok (.aload_n 0, 1) := by decide +kernel
theorem dX1_init_1 : decode cX1_init 1 = .ok (.invokespecial 3, 3) := by decide +kernel
theorem dX1_init_4 : decode cX1_init 4 = .ok (.aload_n 0, 1) := by decide +kernel
theorem dX1_init_5 : decode cX1_init 5 = .ok (.bipush 8, 2) := by decide +kernel
theorem dX1_init_7 : decode cX1_init 7 = .ok (.newarray .int, 2) := by decide +kernel
theorem dX1_init_9 : decode cX1_init 9 = .ok (.putfield 9, 3) := by decide +kernel
theorem dX1_init_12 : decode cX1_init 12 = .ok (.aload_n 0, 1) := by decide +kernel
theorem dX1_init_13 : decode cX1_init 13 = .ok (.iconst 5, 1) := by decide +kernel
theorem dX1_init_14 : decode cX1_init 14 = .ok (.bipush 8, 2) := by decide +kernel
theorem dX1_init_16 : decode cX1_init 16 = .ok (.multianewarray 15 2, 4) := by decide +kernel
theorem dX1_init_20 : decode cX1_init 20 = .ok (.putfield 17, 3) := by decide +kernel
theorem dX1_init_23 : decode cX1_init 23 = .ok (.aload_n 0, 1) := by decide +kernel
theorem dX1_init_24 : decode cX1_init 24 = .ok (.bipush 8, 2) := by decide +kernel
theorem dX1_init_26 : decode cX1_init 26 = .ok (.newarray .int, 2) := by decide +kernel
theorem dX1_init_28 : decode cX1_init 28 = .ok (.putfield 20, 3) := by decide +kernel
theorem dX1_init_31 : decode cX1_init 31 = .ok (.aload_n 0, 1) := by decide +kernel
theorem dX1_init_32 : decode cX1_init 32 = .ok (.iload_n 1, 1) := by decide +kernel
theorem dX1_init_33 : decode cX1_init 33 = .ok (.putfield 23, 3) := by decide +kernel
theorem dX1_init_36 : decode cX1_init 36 = .ok (.return_, 1) := by decide +kernel
theorem dX1_add_0 : decode cX1_add 0 = .ok (.aload_n 0, 1) := by decide +kernel
theorem dX1_add_1 : decode cX1_add 1 = .ok (.getfield 17, 3) := by decide +kernel
theorem dX1_add_4 : decode cX1_add 4 = .ok (.iconst 0, 1) := by decide +kernel
theorem dX1_add_5 : decode cX1_add 5 = .ok (.aaload, 1) := by decide +kernel
theorem dX1_add_6 : decode cX1_add 6 = .ok (.aload_n 0, 1) := by decide +kernel
theorem dX1_add_7 : decode cX1_add 7 = .ok (.getfield 27, 3) := by decide +kernel
theorem dX1_add_10 : decode cX1_add 10 = .ok (.iload_n 1, 1) := by decide +kernel
theorem dX1_add_11 : decode cX1_add 11 = .ok (.iastore, 1) := by decide +kernel
theorem dX1_add_12 : decode cX1_add 12 = .ok (.aload_n 0, 1) := by decide +kernel
theorem dX1_add_13 : decode cX1_add 13 = .ok (.getfield 17, 3) := by decide +kernel
theorem dX1_add_16 : decode cX1_add 16 = .ok (.iconst 1, 1) := by decide +kernel
theorem dX1_add_17 : decode cX1_add 17 = .ok (.aaload, 1) := by decide +kernel
theorem dX1_add_18 : decode cX1_add 18 = .ok (.aload_n 0, 1) := by decide +kernel
theorem dX1_add_19 : decode cX1_add 19 = .ok (.getfield 27, 3) := by decide +kernel
theorem dX1_add_22 : decode cX1_add 22 = .ok (.iload_n 2, 1) := by decide +kernel
theorem dX1_add_23 : decode cX1_add 23 = .ok (.iastore, 1) := by decide +kernel
theorem dX1_add_24 : decode cX1_add 24 = .ok (.aload_n 0, 1) := by decide +kernel
theorem dX1_add_25 : decode cX1_add 25 = .ok (.getfield 17, 3) := by decide +kernel
theorem dX1_add_28 : decode cX1_add 28 = .ok (.iconst 2, 1) := by decide +kernel
theorem dX1_add_29 : decode cX1_add 29 = .ok (.aaload, 1) := by decide +kernel
theorem dX1_add_30 : decode cX1_add 30 = .ok (.aload_n 0, 1) := by decide +kernel
theorem dX1_add_31 : decode cX1_add 31 = .ok (.getfield 27, 3) := by decide +kernel
theorem dX1_add_34 : decode cX1_add 34 = .ok (.iload_n 3, 1) := by decide +kernel
theorem dX1_add_35 : decode cX1_add 35 = .ok (.iastore, 1) := by decide +kernel
theorem dX1_add_36 : decode cX1_add 36 = .ok (.aload_n 0, 1) := by decide +kernel
theorem dX1_add_37 : decode cX1_add 37 = .ok (.getfield 17, 3) := by decide +kernel
theorem dX1_add_40 : decode cX1_add 40 = .ok (.iconst 3, 1) := by decide +kernel
theorem dX1_add_41 : decode cX1_add 41 = .ok (.aaload, 1) := by decide +kernel
theorem dX1_add_42 : decode cX1_add 42 = .ok (.aload_n 0, 1) := by decide +kernel
theorem dX1_add_43 : decode cX1_add 43 = .ok (.getfield 27, 3) := by decide +kernel
theorem dX1_add_46 : decode cX1_add 46 = .ok (.iload 4, 2) := by decide +kernel
theorem dX1_add_48 : decode cX1_add 48 = .ok (.iastore, 1) := by decide +kernel
theorem dX1_add_49 : decode cX1_add 49 = .ok (.aload_n 0, 1) := by decide +kernel
theorem dX1_add_50 : decode cX1_add 50 = .ok (.getfield 17, 3) := by decide +kernel
theorem dX1_add_53 : decode cX1_add 53 = .ok (.iconst 4, 1) := by decide +kernel
theorem dX1_add_54 : decode cX1_add 54 = .ok (.aaload, 1) := by decide +kernel
theorem dX1_add_55 : decode cX1_add 55 = .ok (.aload_n 0, 1) := by decide +kernel
theorem dX1_add_56 : decode cX1_add 56 = .ok (.getfield 27, 3) := by decide +kernel
theorem dX1_add_59 : decode cX1_add 59 = .ok (.iload 5, 2) := by decide +kernel
theorem dX1_add_61 : decode cX1_add 61 = .ok (.iastore, 1) := by decide +kernel
theorem dX1_add_62 : decode cX1_add 62 = .ok (.aload_n 0, 1) := by decide +kernel
theorem dX1_add_63 : decode cX1_add 63 = .ok (.dup, 1) := by decide +kernel
theorem dX1_add_64 : decode cX1_add 64 = .ok (.getfield 27, 3) := by decide +kernel
theorem dX1_add_67 : decode cX1_add 67 = .ok (.iconst 1, 1) := by decide +kernel
theorem dX1_add_68 : decode cX1_add 68 = .ok (.iadd, 1) := by decide +kernel
theorem dX1_add_69 : decode cX1_add 69 = .ok (.putfield 27, 3) := by decide +kernel
theorem dX1_add_72 : decode cX1_add 72 = .ok (.aload_n 0, 1) := by decide +kernel
theorem dX1_add_73 : decode cX1_add 73 = .ok (.iconst 0, 1) := by decide +kernel
theorem dX1_add_74 : decode cX1_add 74 = .ok (.putfield 30, 3) := by decide +kernel
theorem dX1_add_77 : decode cX1_add 77 = .ok (.aload_n 0, 1) := by decide +kernel
theorem dX1_add_78 : decode cX1_add 78 = .ok (.getfield 27, 3) := by decide +kernel
theorem dX1_add_81 : decode cX1_add 81 = .ok (.ireturn, 1) := by decide +kernel
theorem dX1_isLinear_0 : decode cX1_isLinear 0 = .ok (.aload_n 0, 1) := by decide +kernel
theorem dX1_isLinear_1 : decode cX1_isLinear 1 = .ok (.getfield 30, 3) := by decide +kernel
theorem dX1_isLinear_4 : decode cX1_isLinear 4 = .ok (.ifCond .ne 21, 3) := by decide +kernel
theorem dX1_isLinear_7 : decode cX1_isLinear 7 = .ok (.aload_n 0, 1) := by decide +kernel
theorem dX1_isLinear_8 : decode cX1_isLinear 8 = .ok (.aload_n 0, 1) := by decide +kernel
theorem dX1_isLinear_9 : decode cX1_isLinear 9 = .ok (.iconst 0, 1) := by decide +kernel
theorem dX1_isLinear_10 : decode cX1_isLinear 10 = .ok (.iconst 0, 1) := by decide +kernel
theorem dX1_isLinear_11 : decode cX1_isLinear 11 = .ok (.iconst 0, 1) := by decide +kernel
theorem dX1_isLinear_12 : decode cX1_isLinear 12 = .ok (.iconst 0, 1) := by decide +kernel
theorem dX1_isLinear_13 : decode cX1_isLinear 13 = .ok (.iconst 0, 1) := by decide +kernel
theorem dX1_isLinear_14 : decode cX1_isLinear 14 = .ok (.invokevirtual 34, 3) := by decide +kernel
theorem dX1_isLinear_17 : decode cX1_isLinear 17 = .ok (.putfield 38, 3) := by decide +kernel
theorem dX1_isLinear_20 : decode cX1_isLinear 20 = .ok (.aload_n 0, 1) := by decide +kernel
theorem dX1_isLinear_21 : decode cX1_isLinear 21 = .ok (.iconst 1, 1) := by decide +kernel
theorem dX1_isLinear_22 : decode cX1_isLinear 22 = .ok (.putfield 30, 3) := by decide +kernel
theorem dX1_isLinear_25 : decode cX1_isLinear 25 = .ok (.aload_n 0, 1) := by decide +kernel
theorem dX1_isLinear_26 : decode cX1_isLinear 26 = .ok (.getfield 38, 3) := by decide +kernel
theorem dX1_isLinear_29 : decode cX1_isLinear 29 = .ok (.ireturn, 1) := by decide +kernel
theorem dX1_completes_0 : decode cX1_completes 0 = .ok (.iload_n 1, 1) := by decide +kernel
theorem dX1_completes_1 : decode cX1_completes 1 = .ok (.aload_n 0, 1) := by decide +kernel
theorem dX1_completes_2 : decode cX1_completes 2 = .ok (.getfield 27, 3) := by decide +kernel
theorem dX1_completes_5 : decode cX1_completes 5 = .ok (.if_icmp .lt 5, 3) := by decide +kernel
theorem dX1_completes_8 : decode cX1_completes 8 = .ok (.iconst 1, 1) := by decide +kernel
theorem dX1_completes_9 : decode cX1_completes 9 = .ok (.ireturn, 1) := by decide +kernel
theorem dX1_completes_10 : decode cX1_completes 10 = .ok (.iconst 0, 1) := by decide +kernel
theorem dX1_completes_11 : decode cX1_completes 11 = .ok (.istore 6, 2) := by decide +kernel
theorem dX1_completes_13 : decode cX1_completes 13 = .ok (.iload 6, 2) := by decide +kernel
theorem dX1_completes_15 : decode cX1_completes 15 = .ok (.aload_n 0, 1) := by decide +kernel
theorem dX1_completes_16 : decode cX1_completes 16 = .ok (.getfield 27, 3) := by decide +kernel
theorem dX1_completes_19 : decode cX1_completes 19 = .ok (.if_icmp .ge 62, 3) := by decide +kernel
theorem dX1_completes_22 : decode cX1_completes 22 = .ok (.iload_n 2, 1) := by decide +kernel
theorem dX1_completes_23 : decode cX1_completes 23 = .ok (.iload 6, 2) := by decide +kernel
theorem dX1_completes_25 : decode cX1_completes 25 = .ok (.ishr, 1) := by decide +kernel
theorem dX1_completes_26 : decode cX1_completes 26 = .ok (.iconst 1, 1) := by decide +kernel
theorem dX1_completes_27 : decode cX1_completes 27 = .ok (.iand, 1) := by decide +kernel
theorem dX1_completes_28 : decode cX1_completes 28 = .ok (.ifCond .ne 47, 3) := by decide +kernel
theorem dX1_completes_31 : decode cX1_completes 31 = .ok (.aload_n 0, 1) := by decide +kernel
theorem dX1_completes_32 : decode cX1_completes 32 = .ok (.iload 6, 2) := by decide +kernel
theorem dX1_completes_34 : decode cX1_completes 34 = .ok (.iload_n 2, 1) := by decide +kernel
theorem dX1_completes_35 : decode cX1_completes 35 = .ok (.invokevirtual 41, 3) := by decide +kernel
theorem dX1_completes_38 : decode cX1_completes 38 = .ok (.ifCond .eq 37, 3) := by decide +kernel
theorem dX1_completes_41 : decode cX1_completes 41 = .ok (.aload_n 0, 1) := by decide +kernel
theorem dX1_completes_42 : decode cX1_completes 42 = .ok (.getfield 9, 3) := by decide +kernel
theorem dX1_completes_45 : decode cX1_completes 45 = .ok (.iload_n 1, 1) := by decide +kernel
theorem dX1_completes_46 : decode cX1_completes 46 = .ok (.iload 6, 2) := by decide +kernel
theorem dX1_completes_48 : decode cX1_completes 48 = .ok (.iastore, 1) := by decide +kernel
theorem dX1_completes_49 : decode cX1_completes 49 = .ok (.iload_n 2, 1) := by decide +kernel
theorem dX1_completes_50 : decode cX1_completes 50 = .ok (.iconst 1, 1) := by decide +kernel
theorem dX1_completes_51 : decode cX1_completes 51 = .ok (.iload 6, 2) := by decide +kernel
theorem dX1_completes_53 : decode cX1_completes 53 = .ok (.ishl, 1) := by decide +kernel
theorem dX1_completes_54 : decode cX1_completes 54 = .ok (.ior, 1) := by decide +kernel
theorem dX1_completes_55 : decode cX1_completes 55 = .ok (.istore 7, 2) := by decide +kernel
theorem dX1_completes_57 : decode cX1_completes 57 = .ok (.aload_n 0, 1) := by decide +kernel
theorem dX1_completes_58 : decode cX1_completes 58 = .ok (.iload 6, 2) := by decide +kernel
theorem dX1_completes_60 : decode cX1_completes 60 = .ok (.iload 7, 2) := by decide +kernel
theorem dX1_completes_62 : decode cX1_completes 62 = .ok (.iload_n 3, 1) := by decide +kernel
theorem dX1_completes_63 : decode cX1_completes 63 = .ok (.iload 4, 2) := by decide +kernel
theorem dX1_completes_65 : decode cX1_completes 65 = .ok (.iload 5, 2) := by decide +kernel
theorem dX1_completes_67 : decode cX1_completes 67 = .ok (.invokevirtual 45, 3) := by decide +kernel
theorem dX1_completes_70 : decode cX1_completes 70 = .ok (.ifCond .eq 5, 3) := by decide +kernel
theorem dX1_completes_73 : decode cX1_completes 73 = .ok (.iconst 1, 1) := by decide +kernel
theorem dX1_completes_74 : decode cX1_completes 74 = .ok (.ireturn, 1) := by decide +kernel
theorem dX1_completes_75 : decode cX1_completes 75 = .ok (.iinc 6 1, 3) := by decide +kernel
theorem dX1_completes_78 : decode cX1_completes 78 = .ok (.goto (-65), 3) := by decide +kernel
theorem dX1_completes_81 : decode cX1_completes 81 = .ok (.iconst 0, 1) := by decide +kernel
theorem dX1_completes_82 : decode cX1_completes 82 = .ok (.ireturn, 1) := by decide +kernel
theorem dX1_completesBehind_0 : decode cX1_completesBehind 0 = .ok (.iload_n 2, 1) := by decide +kernel
theorem dX1_completesBehind_1 : decode cX1_completesBehind 1 = .ok (.invokestatic 48, 3) := by decide +kernel
theorem dX1_completesBehind_4 : decode cX1_completesBehind 4 = .ok (.istore 6, 2) := by decide +kernel
theorem dX1_completesBehind_6 : decode cX1_completesBehind 6 = .ok (.aload_n 0, 1) := by decide +kernel
theorem dX1_completesBehind_7 : decode cX1_completesBehind 7 = .ok (.getfield 17, 3) := by decide +kernel
theorem dX1_completesBehind_10 : decode cX1_completesBehind 10 = .ok (.iconst 1, 1) := by decide +kernel
theorem dX1_completesBehind_11 : decode cX1_completesBehind 11 = .ok (.aaload, 1) := by decide +kernel
theorem dX1_completesBehind_12 : decode cX1_completesBehind 12 = .ok (.iload_n 1, 1) := by decide +kernel
theorem dX1_completesBehind_13 : decode cX1_completesBehind 13 = .ok (.iaload, 1) := by decide +kernel
theorem dX1_completesBehind_14 : decode cX1_completesBehind 14 = .ok (.istore 7, 2) := by decide +kernel
theorem dX1_completesBehind_16 : decode cX1_completesBehind 16 = .ok (.aload_n 0, 1) := by decide +kernel
theorem dX1_completesBehind_17 : decode cX1_completesBehind 17 = .ok (.getfield 17, 3) := by decide +kernel
theorem dX1_completesBehind_20 : decode cX1_completesBehind 20 = .ok (.iconst 2, 1) := by decide +kernel
theorem dX1_completesBehind_21 : decode cX1_completesBehind 21 = .ok (.aaload, 1) := by decide +kernel
theorem dX1_completesBehind_22 : decode cX1_completesBehind 22 = .ok (.iload_n 1, 1) := by decide +kernel
theorem dX1_completesBehind_23 : decode cX1_completesBehind 23 = .ok (.iaload, 1) := by decide +kernel
theorem dX1_completesBehind_24 : decode cX1_completesBehind 24 = .ok (.istore 8, 2) := by decide +kernel
theorem dX1_completesBehind_26 : decode cX1_completesBehind 26 = .ok (.aload_n 0, 1) := by decide +kernel
theorem dX1_completesBehind_27 : decode cX1_completesBehind 27 = .ok (.getfield 17, 3) := by decide +kernel
theorem dX1_completesBehind_30 : decode cX1_completesBehind 30 = .ok (.iconst 0, 1) := by decide +kernel
theorem dX1_completesBehind_31 : decode cX1_completesBehind 31 = .ok (.aaload, 1) := by decide +kernel
theorem dX1_completesBehind_32 : decode cX1_completesBehind 32 = .ok (.iload_n 1, 1) := by decide +kernel
theorem dX1_completesBehind_33 : decode cX1_completesBehind 33 = .ok (.iaload, 1) := by decide +kernel
theorem dX1_completesBehind_34 : decode cX1_completesBehind 34 = .ok (.ifCond .ne 7, 3) := by decide +kernel
theorem dX1_completesBehind_37 : decode cX1_completesBehind 37 = .ok (.iconst 1, 1) := by decide +kernel
theorem dX1_completesBehind_38 : decode cX1_completesBehind 38 = .ok (.goto 4, 3) := by decide +kernel
theorem dX1_completesBehind_41 : decode cX1_completesBehind 41 = .ok (.iconst 0, 1) := by decide +kernel
theorem dX1_completesBehind_42 : decode cX1_completesBehind 42 = .ok (.istore 9, 2) := by decide +kernel
theorem dX1_completesBehind_44 : decode cX1_completesBehind 44 = .ok (.aload_n 0, 1) := by decide +kernel
theorem dX1_completesBehind_45 : decode cX1_completesBehind 45 = .ok (.getfield 23, 3) := by decide +kernel
theorem dX1_completesBehind_48 : decode cX1_completesBehind 48 = .ok (.iconst 2, 1) := by decide +kernel
theorem dX1_completesBehind_49 : decode cX1_completesBehind 49 = .ok (.if_icmp .ne 45, 3) := by decide +kernel
theorem dX1_completesBehind_52 : decode cX1_completesBehind 52 = .ok (.iload 9, 2) := by decide +kernel
theorem dX1_completesBehind_54 : decode cX1_completesBehind 54 = .ok (.ifCond .eq 40, 3) := by decide +kernel
theorem dX1_completesBehind_57 : decode cX1_completesBehind 57 = .ok (.aload_n 0, 1) := by decide +kernel
theorem dX1_completesBehind_58 : decode cX1_completesBehind 58 = .ok (.getfield 20, 3) := by decide +kernel
theorem dX1_completesBehind_61 : decode cX1_completesBehind 61 = .ok (.iload 5, 2) := by decide +kernel
theorem dX1_completesBehind_63 : decode cX1_completesBehind 63 = .ok (.iload 7, 2) := by decide +kernel
theorem dX1_completesBehind_65 : decode cX1_completesBehind 65 = .ok (.iastore, 1) := by decide +kernel
theorem dX1_completesBehind_66 : decode cX1_completesBehind 66 = .ok (.iload 8, 2) := by decide +kernel
theorem dX1_completesBehind_68 : decode cX1_completesBehind 68 = .ok (.ifCond .ne 24, 3) := by decide +kernel
theorem dX1_completesBehind_71 : decode cX1_completesBehind 71 = .ok (.aload_n 0, 1) := by decide +kernel
theorem dX1_completesBehind_72 : decode cX1_completesBehind 72 = .ok (.iload 6, 2) := by decide +kernel
theorem dX1_completesBehind_74 : decode cX1_completesBehind 74 = .ok (.iload_n 2, 1) := by decide +kernel
theorem dX1_completesBehind_75 : decode cX1_completesBehind 75 = .ok (.iload_n 3, 1) := by decide +kernel
theorem dX1_completesBehind_76 : decode cX1_completesBehind 76 = .ok (.iload 4, 2) := by decide +kernel
theorem dX1_completesBehind_78 : decode cX1_completesBehind 78 = .ok (.iload 5, 2) := by decide +kernel
theorem dX1_completesBehind_80 : decode cX1_completesBehind 80 = .ok (.iconst 1, 1) := by decide +kernel
theorem dX1_completesBehind_81 : decode cX1_completesBehind 81 = .ok (.iadd, 1) := by decide +kernel
theorem dX1_completesBehind_82 : decode cX1_completesBehind 82 = .ok (.invokevirtual 34, 3) := by decide +kernel
theorem dX1_completesBehind_85 : decode cX1_completesBehind 85 = .ok (.ifCond .eq 7, 3) := by decide +kernel
theorem dX1_completesBehind_88 : decode cX1_completesBehind 88 = .ok (.iconst 1, 1) := by decide +kernel
theorem dX1_completesBehind_89 : decode cX1_completesBehind 89 = .ok (.goto 4, 3) := by decide +kernel
theorem dX1_completesBehind_92 : decode cX1_completesBehind 92 = .ok (.iconst 0, 1) := by decide +kernel
theorem dX1_completesBehind_93 : decode cX1_completesBehind 93 = .ok (.ireturn, 1) := by decide +kernel
theorem dX1_completesBehind_94 : decode cX1_completesBehind 94 = .ok (.aload_n 0, 1) := by decide +kernel
theorem dX1_completesBehind_95 : decode cX1_completesBehind 95 = .ok (.getfield 23, 3) := by decide +kernel
theorem dX1_completesBehind_98 : decode cX1_completesBehind 98 = .ok (.iconst 2, 1) := by decide +kernel
theorem dX1_completesBehind_99 : decode cX1_completesBehind 99 = .ok (.if_icmp .ne 71, 3) := by decide +kernel
theorem dX1_completesBehind_102 : decode cX1_completesBehind 102 = .ok (.iload 4, 2) := by decide +kernel
theorem dX1_completesBehind_104 : decode cX1_completesBehind 104 = .ok (.iload 5, 2) := by decide +kernel
theorem dX1_completesBehind_106 : decode cX1_completesBehind 106 = .ok (.if_icmp .lt 7, 3) := by decide +kernel
theorem dX1_completesBehind_109 : decode cX1_completesBehind 109 = .ok (.iconst 1, 1) := by decide +kernel
theorem dX1_completesBehind_110 : decode cX1_completesBehind 110 = .ok (.goto 4, 3) := by decide +kernel
theorem dX1_completesBehind_113 : decode cX1_completesBehind 113 = .ok (.iconst 0, 1) := by decide +kernel
theorem dX1_completesBehind_114 : decode cX1_completesBehind 114 = .ok (.istore 10, 2) := by decide +kernel
theorem dX1_completesBehind_116 : decode cX1_completesBehind 116 = .ok (.iload 8, 2) := by decide +kernel
theorem dX1_completesBehind_118 : decode cX1_completesBehind 118 = .ok (.iload 10, 2) := by decide +kernel
theorem dX1_completesBehind_120 : decode cX1_completesBehind 120 = .ok (.ifCond .eq 7, 3) := by decide +kernel
theorem dX1_completesBehind_123 : decode cX1_completesBehind 123 = .ok (.iconst (-1), 1) := by decide +kernel
theorem dX1_completesBehind_124 : decode cX1_completesBehind 124 = .ok (.goto 10, 3) := by decide +kernel
theorem dX1_completesBehind_127 : decode cX1_completesBehind 127 = .ok (.aload_n 0, 1) := by decide +kernel
theorem dX1_completesBehind_128 : decode cX1_completesBehind 128 = .ok (.getfield 20, 3) := by decide +kernel
theorem dX1_completesBehind_131 : decode cX1_completesBehind 131 = .ok (.iload 4, 2) := by decide +kernel
theorem dX1_completesBehind_133 : decode cX1_completesBehind 133 = .ok (.iaload, 1) := by decide +kernel
theorem dX1_completesBehind_134 : decode cX1_completesBehind 134 = .ok (.if_icmp .ne 34, 3) := by decide +kernel
theorem dX1_completesBehind_137 : decode cX1_completesBehind 137 = .ok (.aload_n 0, 1) := by decide +kernel
theorem dX1_completesBehind_138 : decode cX1_completesBehind 138 = .ok (.iload 6, 2) := by decide +kernel
theorem dX1_completesBehind_140 : decode cX1_completesBehind 140 = .ok (.iload_n 2, 1) := by decide +kernel
theorem dX1_completesBehind_141 : decode cX1_completesBehind 141 = .ok (.iload_n 3, 1) := by decide +kernel
theorem dX1_completesBehind_142 : decode cX1_completesBehind 142 = .ok (.iload 10, 2) := by decide +kernel
theorem dX1_completesBehind_144 : decode cX1_completesBehind 144 = .ok (.ifCond .eq 8, 3) := by decide +kernel
theorem dX1_completesBehind_147 : decode cX1_completesBehind 147 = .ok (.iload 4, 2) := by decide +kernel
theorem dX1_completesBehind_149 : decode cX1_completesBehind 149 = .ok (.goto 7, 3) := by decide +kernel
theorem dX1_completesBehind_152 : decode cX1_completesBehind 152 = .ok (.iload 4, 2) := by decide +kernel
theorem dX1_completesBehind_154 : decode cX1_completesBehind 154 = .ok (.iconst 1, 1) := by decide +kernel
theorem dX1_completesBehind_155 : decode cX1_completesBehind 155 = .ok (.iadd, 1) := by decide +kernel
theorem dX1_completesBehind_156 : decode cX1_completesBehind 156 = .ok (.iload 5, 2) := by decide +kernel
theorem dX1_completesBehind_158 : decode cX1_completesBehind 158 = .ok (.invokevirtual 34, 3) := by decide +kernel
theorem dX1_completesBehind_161 : decode cX1_completesBehind 161 = .ok (.ifCond .eq 7, 3) := by decide +kernel
theorem dX1_completesBehind_164 : decode cX1_completesBehind 164 = .ok (.iconst 1, 1) := by decide +kernel
theorem dX1_completesBehind_165 : decode cX1_completesBehind 165 = .ok (.goto 4, 3) := by decide +kernel
theorem dX1_completesBehind_168 : decode cX1_completesBehind 168 = .ok (.iconst 0, 1) := by decide +kernel
theorem dX1_completesBehind_169 : decode cX1_completesBehind 169 = .ok (.ireturn, 1) := by decide +kernel
theorem dX1_completesBehind_170 : decode cX1_completesBehind 170 = .ok (.iload 9, 2) := by decide +kernel
theorem dX1_completesBehind_172 : decode cX1_completesBehind 172 = .ok (.ifCond .ne 7, 3) := by decide +kernel
theorem dX1_completesBehind_175 : decode cX1_completesBehind 175 = .ok (.iload_n 3, 1) := by decide +kernel
theorem dX1_completesBehind_176 : decode cX1_completesBehind 176 = .ok (.goto 20, 3) := by decide +kernel
theorem dX1_completesBehind_179 : decode cX1_completesBehind 179 = .ok (.aload_n 0, 1) := by decide +kernel
theorem dX1_completesBehind_180 : decode cX1_completesBehind 180 = .ok (.getfield 23, 3) := by decide +kernel
theorem dX1_completesBehind_183 : decode cX1_completesBehind 183 = .ok (.iconst 1, 1) := by decide +kernel
theorem dX1_completesBehind_184 : decode cX1_completesBehind 184 = .ok (.if_icmp .ne 10, 3) := by decide +kernel
theorem dX1_completesBehind_187 : decode cX1_completesBehind 187 = .ok (.iload_n 3, 1) := by decide +kernel
theorem dX1_completesBehind_188 : decode cX1_completesBehind 188 = .ok (.iload 7, 2) := by decide +kernel
theorem dX1_completesBehind_190 : decode cX1_completesBehind 190 = .ok (.iadd, 1) := by decide +kernel
theorem dX1_completesBehind_191 : decode cX1_completesBehind 191 = .ok (.goto 5, 3) := by decide +kernel
theorem dX1_completesBehind_194 : decode cX1_completesBehind 194 = .ok (.iload 7, 2) := by decide +kernel
theorem dX1_completesBehind_196 : decode cX1_completesBehind 196 = .ok (.istore 10, 2) := by decide +kernel
theorem dX1_completesBehind_198 : decode cX1_completesBehind 198 = .ok (.iload 9, 2) := by decide +kernel
theorem dX1_completesBehind_200 : decode cX1_completesBehind 200 = .ok (.ifCond .eq 14, 3) := by decide +kernel
theorem dX1_completesBehind_203 : decode cX1_completesBehind 203 = .ok (.aload_n 0, 1) := by decide +kernel
theorem dX1_completesBehind_204 : decode cX1_completesBehind 204 = .ok (.getfield 23, 3) := by decide +kernel
theorem dX1_completesBehind_207 : decode cX1_completesBehind 207 = .ok (.ifCond .ne 7, 3) := by decide +kernel
theorem dX1_completesBehind_210 : decode cX1_completesBehind 210 = .ok (.iconst 0, 1) := by decide +kernel
theorem dX1_completesBehind_211 : decode cX1_completesBehind 211 = .ok (.goto 5, 3) := by decide +kernel
theorem dX1_completesBehind_214 : decode cX1_completesBehind 214 = .ok (.iload 10, 2) := by decide +kernel
theorem dX1_completesBehind_216 : decode cX1_completesBehind 216 = .ok (.istore 11, 2) := by decide +kernel
theorem dX1_completesBehind_218 : decode cX1_completesBehind 218 = .ok (.iload 8, 2) := by decide +kernel
theorem dX1_completesBehind_220 : decode cX1_completesBehind 220 = .ok (.iload 11, 2) := by decide +kernel
theorem dX1_completesBehind_222 : decode cX1_completesBehind 222 = .ok (.if_icmp .ne 23, 3) := by decide +kernel
theorem dX1_completesBehind_225 : decode cX1_completesBehind 225 = .ok (.aload_n 0, 1) := by decide +kernel
theorem dX1_completesBehind_226 : decode cX1_completesBehind 226 = .ok (.iload 6, 2) := by decide +kernel
theorem dX1_completesBehind_228 : decode cX1_completesBehind 228 = .ok (.iload_n 2, 1) := by decide +kernel
theorem dX1_completesBehind_229 : decode cX1_completesBehind 229 = .ok (.iload 10, 2) := by decide +kernel
theorem dX1_completesBehind_231 : decode cX1_completesBehind 231 = .ok (.iload 4, 2) := by decide +kernel
theorem dX1_completesBehind_233 : decode cX1_completesBehind 233 = .ok (.iload 5, 2) := by decide +kernel
theorem dX1_completesBehind_235 : decode cX1_completesBehind 235 = .ok (.invokevirtual 34, 3) := by decide +kernel
theorem dX1_completesBehind_238 : decode cX1_completesBehind 238 = .ok (.ifCond .eq 7, 3) := by decide +kernel
theorem dX1_completesBehind_241 : decode cX1_completesBehind 241 = .ok (.iconst 1, 1) := by decide +kernel
theorem dX1_completesBehind_242 : decode cX1_completesBehind 242 = .ok (.goto 4, 3) := by decide +kernel
theorem dX1_completesBehind_245 : decode cX1_completesBehind 245 = .ok (.iconst 0, 1) := by decide +kernel
theorem dX1_completesBehind_246 : decode cX1_completesBehind 246 = .ok (.ireturn, 1) := by decide +kernel
theorem dX1_mayBeNext_0 : decode cX1_mayBeNext 0 = .ok (.iconst 0, 1) := by decide +kernel
theorem dX1_mayBeNext_1 : decode cX1_mayBeNext 1 = .ok (.istore_n 3, 1) := by decide +kernel
theorem dX1_mayBeNext_2 : decode cX1_mayBeNext 2 = .ok (.iload_n 3, 1) := by decide +kernel
theorem dX1_mayBeNext_3 : decode cX1_mayBeNext 3 = .ok (.aload_n 0, 1) := by decide +kernel
theorem dX1_mayBeNext_4 : decode cX1_mayBeNext 4 = .ok (.getfield 27, 3) := by decide +kernel
theorem dX1_mayBeNext_7 : decode cX1_mayBeNext 7 = .ok (.if_icmp .ge 38, 3) := by decide +kernel
theorem dX1_mayBeNext_10 : decode cX1_mayBeNext 10 = .ok (.iload_n 2, 1) := by decide +kernel
theorem dX1_mayBeNext_11 : decode cX1_mayBeNext 11 = .ok (.iload_n 3, 1) := by decide +kernel
theorem dX1_mayBeNext_12 : decode cX1_mayBeNext 12 = .ok (.ishr, 1) := by decide +kernel
theorem dX1_mayBeNext_13 : decode cX1_mayBeNext 13 = .ok (.iconst 1, 1) := by decide +kernel
theorem dX1_mayBeNext_14 : decode cX1_mayBeNext 14 = .ok (.iand, 1) := by decide +kernel
theorem dX1_mayBeNext_15 : decode cX1_mayBeNext 15 = .ok (.ifCond .ne 24, 3) := by decide +kernel
theorem dX1_mayBeNext_18 : decode cX1_mayBeNext 18 = .ok (.aload_n 0, 1) := by decide +kernel
theorem dX1_mayBeNext_19 : decode cX1_mayBeNext 19 = .ok (.getfield 17, 3) := by decide +kernel
theorem dX1_mayBeNext_22 : decode cX1_mayBeNext 22 = .ok (.iconst 4, 1) := by decide +kernel
theorem dX1_mayBeNext_23 : decode cX1_mayBeNext 23 = .ok (.aaload, 1) := by decide +kernel
theorem dX1_mayBeNext_24 : decode cX1_mayBeNext 24 = .ok (.iload_n 3, 1) := by decide +kernel
theorem dX1_mayBeNext_25 : decode cX1_mayBeNext 25 = .ok (.iaload, 1) := by decide +kernel
theorem dX1_mayBeNext_26 : decode cX1_mayBeNext 26 = .ok (.aload_n 0, 1) := by decide +kernel
theorem dX1_mayBeNext_27 : decode cX1_mayBeNext 27 = .ok (.getfield 17, 3) := by decide +kernel
theorem dX1_mayBeNext_30 : decode cX1_mayBeNext 30 = .ok (.iconst 3, 1) := by decide +kernel
theorem dX1_mayBeNext_31 : decode cX1_mayBeNext 31 = .ok (.aaload, 1) := by decide +kernel
theorem dX1_mayBeNext_32 : decode cX1_mayBeNext 32 = .ok (.iload_n 1, 1) := by decide +kernel
theorem dX1_mayBeNext_33 : decode cX1_mayBeNext 33 = .ok (.iaload, 1) := by decide +kernel
theorem dX1_mayBeNext_34 : decode cX1_mayBeNext 34 = .ok (.if_icmp .ge 5, 3) := by decide +kernel
theorem dX1_mayBeNext_37 : decode cX1_mayBeNext 37 = .ok (.iconst 0, 1) := by decide +kernel
theorem dX1_mayBeNext_38 : decode cX1_mayBeNext 38 = .ok (.ireturn, 1) := by decide +kernel
theorem dX1_mayBeNext_39 : decode cX1_mayBeNext 39 = .ok (.iinc 3 1, 3) := by decide +kernel
theorem dX1_mayBeNext_42 : decode cX1_mayBeNext 42 = .ok (.goto (-40), 3) := by decide +kernel
theorem dX1_mayBeNext_45 : decode cX1_mayBeNext 45 = .ok (.iconst 1, 1) := by decide +kernel
theorem dX1_mayBeNext_46 : decode cX1_mayBeNext 46 = .ok (.ireturn, 1) := by decide +kernel
theorem dX2_init_0 : decode cX2_init 0 = .ok (.aload_n 0, 1) := by decide +kernel
theorem dX2_init_1 : decode cX2_init 1 = .ok (.invokespecial 3, 3) := by decide +kernel
theorem dX2_init_4 : decode cX2_init 4 = .ok (.aload_n 0, 1) := by decide +kernel
theorem dX2_init_5 : decode cX2_init 5 = .ok (.sipush 1000, 3) := by decide +kernel
theorem dX2_init_8 : decode cX2_init 8 = .ok (.newarray .int, 2) := by decide +kernel
theorem dX2_init_10 : decode cX2_init 10 = .ok (.putfield 9, 3) := by decide +kernel
theorem dX2_init_13 : decode cX2_init 13 = .ok (.aload_n 0, 1) := by decide +kernel
theorem dX2_init_14 : decode cX2_init 14 = .ok (.sipush 1000, 3) := by decide +kernel
theorem dX2_init_17 : decode cX2_init 17 = .ok (.newarray .int, 2) := by decide +kernel
theorem dX2_init_19 : decode cX2_init 19 = .ok (.putfield 15, 3) := by decide +kernel
theorem dX2_init_22 : decode cX2_init 22 = .ok (.return_, 1) := by decide +kernel
theorem dX2_begin_0 : decode cX2_begin 0 = .ok (.aload_n 0, 1) := by decide +kernel
theorem dX2_begin_1 : decode cX2_begin 1 = .ok (.lconst 0, 1) := by decide +kernel
theorem dX2_begin_2 : decode cX2_begin 2 = .ok (.putfield 18, 3) := by decide +kernel
theorem dX2_begin_5 : decode cX2_begin 5 = .ok (.aload_n 0, 1) := by decide +kernel
theorem dX2_begin_6 : decode cX2_begin 6 = .ok (.lconst 1, 1) := by decide +kernel
theorem dX2_begin_7 : decode cX2_begin 7 = .ok (.putfield 22, 3) := by decide +kernel
theorem dX2_begin_10 : decode cX2_begin 10 = .ok (.aload_n 0, 1) := by decide +kernel
theorem dX2_begin_11 : decode cX2_begin 11 = .ok (.iconst 0, 1) := by decide +kernel
theorem dX2_begin_12 : decode cX2_begin 12 = .ok (.putfield 25, 3) := by decide +kernel
theorem dX2_begin_15 : decode cX2_begin 15 = .ok (.aload_n 0, 1) := by decide +kernel
theorem dX2_begin_16 : decode cX2_begin 16 = .ok (.iconst 0, 1) := by decide +kernel
theorem dX2_begin_17 : decode cX2_begin 17 = .ok (.putfield 29, 3) := by decide +kernel
theorem dX2_begin_20 : decode cX2_begin 20 = .ok (.return_, 1) := by decide +kernel
theorem dX2_beginRow_0 : decode cX2_beginRow 0 = .ok (.aload_n 0, 1) := by decide +kernel
theorem dX2_beginRow_1 : decode cX2_beginRow 1 = .ok (.iconst 0, 1) := by decide +kernel
theorem dX2_beginRow_2 : decode cX2_beginRow 2 = .ok (.putfield 33, 3) := by decide +kernel
theorem dX2_beginRow_5 : decode cX2_beginRow 5 = .ok (.return_, 1) := by decide +kernel
theorem dX2_next_0 : decode cX2_next 0 = .ok (.aload_n 0, 1) := by decide +kernel
theorem dX2_next_1 : decode cX2_next 1 = .ok (.getfield 33, 3) := by decide +kernel
theorem dX2_next_4 : decode cX2_next 4 = .ok (.sipush 1000, 3) := by decide +kernel
theorem dX2_next_7 : decode cX2_next 7 = .ok (.if_icmp .lt 5, 3) := by decide +kernel
theorem dX2_next_10 : decode cX2_next 10 = .ok (.iconst 0, 1) := by decide +kernel
theorem dX2_next_11 : decode cX2_next 11 = .ok (.ireturn, 1) := by decide +kernel
theorem dX2_next_12 : decode cX2_next 12 = .ok (.aload_n 0, 1) := by decide +kernel
theorem dX2_next_13 : decode cX2_next 13 = .ok (.getfield 33, 3) := by decide +kernel
theorem dX2_next_16 : decode cX2_next 16 = .ok (.aload_n 0, 1) := by decide +kernel
theorem dX2_next_17 : decode cX2_next 17 = .ok (.getfield 29, 3) := by decide +kernel
theorem dX2_next_20 : decode cX2_next 20 = .ok (.if_icmp .lt 33, 3) := by decide +kernel
theorem dX2_next_23 : decode cX2_next 23 = .ok (.aload_n 0, 1) := by decide +kernel
theorem dX2_next_24 : decode cX2_next 24 = .ok (.getfield 9, 3) := by decide +kernel
theorem dX2_next_27 : decode cX2_next 27 = .ok (.aload_n 0, 1) := by decide +kernel
theorem dX2_next_28 : decode cX2_next 28 = .ok (.getfield 33, 3) := by decide +kernel
theorem dX2_next_31 : decode cX2_next 31 = .ok (.iconst 0, 1) := by decide +kernel
theorem dX2_next_32 : decode cX2_next 32 = .ok (.iastore, 1) := by decide +kernel
theorem dX2_next_33 : decode cX2_next 33 = .ok (.aload_n 0, 1) := by decide +kernel
theorem dX2_next_34 : decode cX2_next 34 = .ok (.getfield 15, 3) := by decide +kernel
theorem dX2_next_37 : decode cX2_next 37 = .ok (.aload_n 0, 1) := by decide +kernel
theorem dX2_next_38 : decode cX2_next 38 = .ok (.getfield 33, 3) := by decide +kernel
theorem dX2_next_41 : decode cX2_next 41 = .ok (.iload_n 1, 1) := by decide +kernel
theorem dX2_next_42 : decode cX2_next 42 = .ok (.iastore, 1) := by decide +kernel
theorem dX2_next_43 : decode cX2_next 43 = .ok (.aload_n 0, 1) := by decide +kernel
theorem dX2_next_44 : decode cX2_next 44 = .ok (.aload_n 0, 1) := by decide +kernel
theorem dX2_next_45 : decode cX2_next 45 = .ok (.getfield 33, 3) := by decide +kernel
theorem dX2_next_48 : decode cX2_next 48 = .ok (.iconst 1, 1) := by decide +kernel
theorem dX2_next_49 : decode cX2_next 49 = .ok (.iadd, 1) := by decide +kernel
theorem dX2_next_50 : decode cX2_next 50 = .ok (.putfield 29, 3) := by decide +kernel
theorem dX2_next_53 : decode cX2_next 53 = .ok (.aload_n 0, 1) := by decide +kernel
theorem dX2_next_54 : decode cX2_next 54 = .ok (.dup, 1) := by decide +kernel
theorem dX2_next_55 : decode cX2_next 55 = .ok (.getfield 33, 3) := by decide +kernel
theorem dX2_next_58 : decode cX2_next 58 = .ok (.iconst 1, 1) := by decide +kernel
theorem dX2_next_59 : decode cX2_next 59 = .ok (.iadd, 1) := by decide +kernel
theorem dX2_next_60 : decode cX2_next 60 = .ok (.putfield 33, 3) := by decide +kernel
theorem dX2_next_63 : decode cX2_next 63 = .ok (.aload_n 0, 1) := by decide +kernel
theorem dX2_next_64 : decode cX2_next 64 = .ok (.getfield 9, 3) := by decide +kernel
theorem dX2_next_67 : decode cX2_next 67 = .ok (.aload_n 0, 1) := by decide +kernel
theorem dX2_next_68 : decode cX2_next 68 = .ok (.getfield 33, 3) := by decide +kernel
theorem dX2_next_71 : decode cX2_next 71 = .ok (.iconst 1, 1) := by decide +kernel
theorem dX2_next_72 : decode cX2_next 72 = .ok (.isub, 1) := by decide +kernel
theorem dX2_next_73 : decode cX2_next 73 = .ok (.iaload, 1) := by decide +kernel
theorem dX2_next_74 : decode cX2_next 74 = .ok (.ireturn, 1) := by decide +kernel
theorem dX2_nextRow_0 : decode cX2_nextRow 0 = .ok (.aload_n 0, 1) := by decide +kernel
theorem dX2_nextRow_1 : decode cX2_nextRow 1 = .ok (.getfield 29, 3) := by decide +kernel
theorem dX2_nextRow_4 : decode cX2_nextRow 4 = .ok (.ifCond .le 43, 3) := by decide +kernel
theorem dX2_nextRow_7 : decode cX2_nextRow 7 = .ok (.aload_n 0, 1) := by decide +kernel
theorem dX2_nextRow_8 : decode cX2_nextRow 8 = .ok (.getfield 9, 3) := by decide +kernel
theorem dX2_nextRow_11 : decode cX2_nextRow 11 = .ok (.aload_n 0, 1) := by decide +kernel
theorem dX2_nextRow_12 : decode cX2_nextRow 12 = .ok (.getfield 29, 3) := by decide +kernel
theorem dX2_nextRow_15 : decode cX2_nextRow 15 = .ok (.iconst 1, 1) := by decide +kernel
theorem dX2_nextRow_16 : decode cX2_nextRow 16 = .ok (.isub, 1) := by decide +kernel
theorem dX2_nextRow_17 : decode cX2_nextRow 17 = .ok (.iaload, 1) := by decide +kernel
theorem dX2_nextRow_18 : decode cX2_nextRow 18 = .ok (.iconst 1, 1) := by decide +kernel
theorem dX2_nextRow_19 : decode cX2_nextRow 19 = .ok (.iadd, 1) := by decide +kernel
theorem dX2_nextRow_20 : decode cX2_nextRow 20 = .ok (.aload_n 0, 1) := by decide +kernel
theorem dX2_nextRow_21 : decode cX2_nextRow 21 = .ok (.getfield 15, 3) := by decide +kernel
theorem dX2_nextRow_24 : decode cX2_nextRow 24 = .ok (.aload_n 0, 1) := by decide +kernel
theorem dX2_nextRow_25 : decode cX2_nextRow 25 = .ok (.getfield 29, 3) := by decide +kernel
theorem dX2_nextRow_28 : decode cX2_nextRow 28 = .ok (.iconst 1, 1) := by decide +kernel
theorem dX2_nextRow_29 : decode cX2_nextRow 29 = .ok (.isub, 1) := by decide +kernel
theorem dX2_nextRow_30 : decode cX2_nextRow 30 = .ok (.iaload, 1) := by decide +kernel
theorem dX2_nextRow_31 : decode cX2_nextRow 31 = .ok (.if_icmp .lt 16, 3) := by decide +kernel
theorem dX2_nextRow_34 : decode cX2_nextRow 34 = .ok (.aload_n 0, 1) := by decide +kernel
theorem dX2_nextRow_35 : decode cX2_nextRow 35 = .ok (.dup, 1) := by decide +kernel
theorem dX2_nextRow_36 : decode cX2_nextRow 36 = .ok (.getfield 29, 3) := by decide +kernel
theorem dX2_nextRow_39 : decode cX2_nextRow 39 = .ok (.iconst 1, 1) := by decide +kernel
theorem dX2_nextRow_40 : decode cX2_nextRow 40 = .ok (.isub, 1) := by decide +kernel
theorem dX2_nextRow_41 : decode cX2_nextRow 41 = .ok (.putfield 29, 3) := by decide +kernel
theorem dX2_nextRow_44 : decode cX2_nextRow 44 = .ok (.goto (-44), 3) := by decide +kernel
theorem dX2_nextRow_47 : decode cX2_nextRow 47 = .ok (.aload_n 0, 1) := by decide +kernel
theorem dX2_nextRow_48 : decode cX2_nextRow 48 = .ok (.getfield 29, 3) := by decide +kernel
theorem dX2_nextRow_51 : decode cX2_nextRow 51 = .ok (.ifCond .le 18, 3) := by decide +kernel
theorem dX2_nextRow_54 : decode cX2_nextRow 54 = .ok (.aload_n 0, 1) := by decide +kernel
theorem dX2_nextRow_55 : decode cX2_nextRow 55 = .ok (.getfield 9, 3) := by decide +kernel
theorem dX2_nextRow_58 : decode cX2_nextRow 58 = .ok (.aload_n 0, 1) := by decide +kernel
theorem dX2_nextRow_59 : decode cX2_nextRow 59 = .ok (.getfield 29, 3) := by decide +kernel
theorem dX2_nextRow_62 : decode cX2_nextRow 62 = .ok (.iconst 1, 1) := by decide +kernel
theorem dX2_nextRow_63 : decode cX2_nextRow 63 = .ok (.isub, 1) := by decide +kernel
theorem dX2_nextRow_64 : decode cX2_nextRow 64 = .ok (.dup2, 1) := by decide +kernel
theorem dX2_nextRow_65 : decode cX2_nextRow 65 = .ok (.iaload, 1) := by decide +kernel
theorem dX2_nextRow_66 : decode cX2_nextRow 66 = .ok (.iconst 1, 1) := by decide +kernel
theorem dX2_nextRow_67 : decode cX2_nextRow 67 = .ok (.iadd, 1) := by decide +kernel
theorem dX2_nextRow_68 : decode cX2_nextRow 68 = .ok (.iastore, 1) := by decide +kernel
theorem dX2_nextRow_69 : decode cX2_nextRow 69 = .ok (.aload_n 0, 1) := by decide +kernel
theorem dX2_nextRow_70 : decode cX2_nextRow 70 = .ok (.getfield 29, 3) := by decide +kernel
theorem dX2_nextRow_73 : decode cX2_nextRow 73 = .ok (.ifCond .le 7, 3) := by decide +kernel
theorem dX2_nextRow_76 : decode cX2_nextRow 76 = .ok (.iconst 1, 1) := by decide +kernel
theorem dX2_nextRow_77 : decode cX2_nextRow 77 = .ok (.goto 4, 3) := by decide +kernel
theorem dX2_nextRow_80 : decode cX2_nextRow 80 = .ok (.iconst 0, 1) := by decide +kernel
theorem dX2_nextRow_81 : decode cX2_nextRow 81 = .ok (.ireturn, 1) := by decide +kernel
theorem dX2_addRow_0 : decode cX2_addRow 0 = .ok (.lconst 1, 1) := by decide +kernel
theorem dX2_addRow_1 : decode cX2_addRow 1 = .ok (.lstore_n 1, 1) := by decide +kernel
theorem dX2_addRow_2 : decode cX2_addRow 2 = .ok (.iconst 0, 1) := by decide +kernel
theorem dX2_addRow_3 : decode cX2_addRow 3 = .ok (.istore_n 3, 1) := by decide +kernel
theorem dX2_addRow_4 : decode cX2_addRow 4 = .ok (.iload_n 3, 1) := by decide +kernel
theorem dX2_addRow_5 : decode cX2_addRow 5 = .ok (.aload_n 0, 1) := by decide +kernel
theorem dX2_addRow_6 : decode cX2_addRow 6 = .ok (.getfield 29, 3) := by decide +kernel
theorem dX2_addRow_9 : decode cX2_addRow 9 = .ok (.if_icmp .ge 27, 3) := by decide +kernel
theorem dX2_addRow_12 : decode cX2_addRow 12 = .ok (.lload_n 1, 1) := by decide +kernel
theorem dX2_addRow_13 : decode cX2_addRow 13 = .ok (.ldc2_w 36, 3) := by decide +kernel
theorem dX2_addRow_16 : decode cX2_addRow 16 = .ok (.lcmp, 1) := by decide +kernel
theorem dX2_addRow_17 : decode cX2_addRow 17 = .ok (.ifCond .gt 19, 3) := by decide +kernel
theorem dX2_addRow_20 : decode cX2_addRow 20 = .ok (.lload_n 1, 1) := by decide +kernel
theorem dX2_addRow_21 : decode cX2_addRow 21 = .ok (.aload_n 0, 1) := by decide +kernel
theorem dX2_addRow_22 : decode cX2_addRow 22 = .ok (.getfield 15, 3) := by decide +kernel
theorem dX2_addRow_25 : decode cX2_addRow 25 = .ok (.iload_n 3, 1) := by decide +kernel
theorem dX2_addRow_26 : decode cX2_addRow 26 = .ok (.iaload, 1) := by decide +kernel
theorem dX2_addRow_27 : decode cX2_addRow 27 = .ok (.i2l, 1) := by decide +kernel
theorem dX2_addRow_28 : decode cX2_addRow 28 = .ok (.lmul, 1) := by decide +kernel
theorem dX2_addRow_29 : decode cX2_addRow 29 = .ok (.lstore_n 1, 1) := by decide +kernel
theorem dX2_addRow_30 : decode cX2_addRow 30 = .ok (.iinc 3 1, 3) := by decide +kernel
theorem dX2_addRow_33 : decode cX2_addRow 33 = .ok (.goto (-29), 3) := by decide +kernel
theorem dX2_addRow_36 : decode cX2_addRow 36 = .ok (.aload_n 0, 1) := by decide +kernel
theorem dX2_addRow_37 : decode cX2_addRow 37 = .ok (.aload_n 0, 1) := by decide +kernel
theorem dX2_addRow_38 : decode cX2_addRow 38 = .ok (.getfield 25, 3) := by decide +kernel
theorem dX2_addRow_41 : decode cX2_addRow 41 = .ok (.ifCond .ne 11, 3) := by decide +kernel
theorem dX2_addRow_44 : decode cX2_addRow 44 = .ok (.lload_n 1, 1) := by decide +kernel
theorem dX2_addRow_45 : decode cX2_addRow 45 = .ok (.ldc2_w 36, 3) := by decide +kernel
theorem dX2_addRow_48 : decode cX2_addRow 48 = .ok (.lcmp, 1) := by decide +kernel
theorem dX2_addRow_49 : decode cX2_addRow 49 = .ok (.ifCond .le 7, 3) := by decide +kernel
theorem dX2_addRow_52 : decode cX2_addRow 52 = .ok (.iconst 1, 1) := by decide +kernel
theorem dX2_addRow_53 : decode cX2_addRow 53 = .ok (.goto 4, 3) := by decide +kernel
theorem dX2_addRow_56 : decode cX2_addRow 56 = .ok (.iconst 0, 1) := by decide +kernel
theorem dX2_addRow_57 : decode cX2_addRow 57 = .ok (.putfield 25, 3) := by decide +kernel
theorem dX2_addRow_60 : decode cX2_addRow 60 = .ok (.aload_n 0, 1) := by decide +kernel
theorem dX2_addRow_61 : decode cX2_addRow 61 = .ok (.getfield 25, 3) := by decide +kernel
theorem dX2_addRow_64 : decode cX2_addRow 64 = .ok (.ifCond .eq 4, 3) := by decide +kernel
theorem dX2_addRow_67 : decode cX2_addRow 67 = .ok (.return_, 1) := by decide +kernel
theorem dX2_addRow_68 : decode cX2_addRow 68 = .ok (.aload_n 0, 1) := by decide +kernel
theorem dX2_addRow_69 : decode cX2_addRow 69 = .ok (.getfield 18, 3) := by decide +kernel
theorem dX2_addRow_72 : decode cX2_addRow 72 = .ok (.lload_n 1, 1) := by decide +kernel
theorem dX2_addRow_73 : decode cX2_addRow 73 = .ok (.lmul, 1) := by decide +kernel
theorem dX2_addRow_74 : decode cX2_addRow 74 = .ok (.aload_n 0, 1) := by decide +kernel
theorem dX2_addRow_75 : decode cX2_addRow 75 = .ok (.getfield 22, 3) := by decide +kernel
theorem dX2_addRow_78 : decode cX2_addRow 78 = .ok (.ladd, 1) := by decide +kernel
theorem dX2_addRow_79 : decode cX2_addRow 79 = .ok (.lstore_n 3, 1) := by decide +kernel
theorem dX2_addRow_80 : decode cX2_addRow 80 = .ok (.aload_n 0, 1) := by decide +kernel
theorem dX2_addRow_81 : decode cX2_addRow 81 = .ok (.getfield 22, 3) := by decide +kernel
theorem dX2_addRow_84 : decode cX2_addRow 84 = .ok (.lload_n 1, 1) := by decide +kernel
theorem dX2_addRow_85 : decode cX2_addRow 85 = .ok (.lmul, 1) := by decide +kernel
theorem dX2_addRow_86 : decode cX2_addRow 86 = .ok (.lstore 5, 2) := by decide +kernel
theorem dX2_addRow_88 : decode cX2_addRow 88 = .ok (.lload_n 3, 1) := by decide +kernel
theorem dX2_addRow_89 : decode cX2_addRow 89 = .ok (.lload 5, 2) := by decide +kernel
theorem dX2_addRow_91 : decode cX2_addRow 91 = .ok (.invokestatic 38, 3) := by decide +kernel
theorem dX2_addRow_94 : decode cX2_addRow 94 = .ok (.lstore 7, 2) := by decide +kernel
theorem dX2_addRow_96 : decode cX2_addRow 96 = .ok (.aload_n 0, 1) := by decide +kernel
theorem dX2_addRow_97 : decode cX2_addRow 97 = .ok (.lload 7, 2) := by decide +kernel
theorem dX2_addRow_99 : decode cX2_addRow 99 = .ok (.lconst 0, 1) := by decide +kernel
theorem dX2_addRow_100 : decode cX2_addRow 100 = .ok (.lcmp, 1) := by decide +kernel
theorem dX2_addRow_101 : decode cX2_addRow 101 = .ok (.ifCond .ne 7, 3) := by decide +kernel
theorem dX2_addRow_104 : decode cX2_addRow 104 = .ok (.lload_n 3, 1) := by decide +kernel
theorem dX2_addRow_105 : decode cX2_addRow 105 = .ok (.goto 7, 3) := by decide +kernel
theorem dX2_addRow_108 : decode cX2_addRow 108 = .ok (.lload_n 3, 1) := by decide +kernel
theorem dX2_addRow_109 : decode cX2_addRow 109 = .ok (.lload 7, 2) := by decide +kernel
theorem dX2_addRow_111 : decode cX2_addRow 111 = .ok (.ldiv, 1) := by decide +kernel
theorem dX2_addRow_112 : decode cX2_addRow 112 = .ok (.putfield 18, 3) := by decide +kernel
theorem dX2_addRow_115 : decode cX2_addRow 115 = .ok (.aload_n 0, 1) := by decide +kernel
theorem dX2_addRow_116 : decode cX2_addRow 116 = .ok (.lload 7, 2) := by decide +kernel
theorem dX2_addRow_118 : decode cX2_addRow 118 = .ok (.lconst 0, 1) := by decide +kernel
theorem dX2_addRow_119 : decode cX2_addRow 119 = .ok (.lcmp, 1) := by decide +kernel
theorem dX2_addRow_120 : decode cX2_addRow 120 = .ok (.ifCond .ne 8, 3) := by decide +kernel
theorem dX2_addRow_123 : decode cX2_addRow 123 = .ok (.lload 5, 2) := by decide +kernel
theorem dX2_addRow_125 : decode cX2_addRow 125 = .ok (.goto 8, 3) := by decide +kernel
theorem dX2_addRow_128 : decode cX2_addRow 128 = .ok (.lload 5, 2) := by decide +kernel
theorem dX2_addRow_130 : decode cX2_addRow 130 = .ok (.lload 7, 2) := by decide +kernel
theorem dX2_addRow_132 : decode cX2_addRow 132 = .ok (.ldiv, 1) := by decide +kernel
theorem dX2_addRow_133 : decode cX2_addRow 133 = .ok (.putfield 22, 3) := by decide +kernel
theorem dX2_addRow_136 : decode cX2_addRow 136 = .ok (.aload_n 0, 1) := by decide +kernel
theorem dX2_addRow_137 : decode cX2_addRow 137 = .ok (.aload_n 0, 1) := by decide +kernel
theorem dX2_addRow_138 : decode cX2_addRow 138 = .ok (.getfield 22, 3) := by decide +kernel
theorem dX2_addRow_141 : decode cX2_addRow 141 = .ok (.ldc2_w 36, 3) := by decide +kernel
theorem dX2_addRow_144 : decode cX2_addRow 144 = .ok (.lcmp, 1) := by decide +kernel
theorem dX2_addRow_145 : decode cX2_addRow 145 = .ok (.ifCond .le 7, 3) := by decide +kernel
theorem dX2_addRow_148 : decode cX2_addRow 148 = .ok (.iconst 1, 1) := by decide +kernel
theorem dX2_addRow_149 : decode cX2_addRow 149 = .ok (.goto 4, 3) := by decide +kernel
theorem dX2_addRow_152 : decode cX2_addRow 152 = .ok (.iconst 0, 1) := by decide +kernel
theorem dX2_addRow_153 : decode cX2_addRow 153 = .ok (.putfield 25, 3) := by decide +kernel
theorem dX2_addRow_156 : decode cX2_addRow 156 = .ok (.return_, 1) := by decide +kernel
theorem dX2_commonDivisor_0 : decode cX2_commonDivisor 0 = .ok (.lload_n 0, 1) := by decide +kernel
theorem dX2_commonDivisor_1 : decode cX2_commonDivisor 1 = .ok (.lstore 4, 2) := by decide +kernel
theorem dX2_commonDivisor_3 : decode cX2_commonDivisor 3 = .ok (.lload_n 2, 1) := by decide +kernel
theorem dX2_commonDivisor_4 : decode cX2_commonDivisor 4 = .ok (.lstore 6, 2) := by decide +kernel
theorem dX2_commonDivisor_6 : decode cX2_commonDivisor 6 = .ok (.iconst 0, 1) := by decide +kernel
theorem dX2_commonDivisor_7 : decode cX2_commonDivisor 7 = .ok (.istore 8, 2) := by decide +kernel
theorem dX2_commonDivisor_9 : decode cX2_commonDivisor 9 = .ok (.iload 8, 2) := by decide +kernel
theorem dX2_commonDivisor_11 : decode cX2_commonDivisor 11 = .ok (.bipush 100, 2) := by decide +kernel
theorem dX2_commonDivisor_13 : decode cX2_commonDivisor 13 = .ok (.if_icmp .ge 31, 3) := by decide +kernel
theorem dX2_commonDivisor_16 : decode cX2_commonDivisor 16 = .ok (.lload 6, 2) := by decide +kernel
theorem dX2_commonDivisor_18 : decode cX2_commonDivisor 18 = .ok (.lconst 0, 1) := by decide +kernel
theorem dX2_commonDivisor_19 : decode cX2_commonDivisor 19 = .ok (.lcmp, 1) := by decide +kernel
theorem dX2_commonDivisor_20 : decode cX2_commonDivisor 20 = .ok (.ifCond .eq 24, 3) := by decide +kernel
theorem dX2_commonDivisor_23 : decode cX2_commonDivisor 23 = .ok (.lload 4, 2) := by decide +kernel
theorem dX2_commonDivisor_25 : decode cX2_commonDivisor 25 = .ok (.lload 6, 2) := by decide +kernel
theorem dX2_commonDivisor_27 : decode cX2_commonDivisor 27 = .ok (.lrem, 1) := by decide +kernel
theorem dX2_commonDivisor_28 : decode cX2_commonDivisor 28 = .ok (.lstore 9, 2) := by decide +kernel
theorem dX2_commonDivisor_30 : decode cX2_commonDivisor 30 = .ok (.lload 6, 2) := by decide +kernel
theorem dX2_commonDivisor_32 : decode cX2_commonDivisor 32 = .ok (.lstore 4, 2) := by decide +kernel
theorem dX2_commonDivisor_34 : decode cX2_commonDivisor 34 = .ok (.lload 9, 2) := by decide +kernel
theorem dX2_commonDivisor_36 : decode cX2_commonDivisor 36 = .ok (.lstore 6, 2) := by decide +kernel
theorem dX2_commonDivisor_38 : decode cX2_commonDivisor 38 = .ok (.iinc 8 1, 3) := by decide +kernel
theorem dX2_commonDivisor_41 : decode cX2_commonDivisor 41 = .ok (.goto (-32), 3) := by decide +kernel
theorem dX2_commonDivisor_44 : decode cX2_commonDivisor 44 = .ok (.lload 4, 2) := by decide +kernel
theorem dX2_commonDivisor_46 : decode cX2_commonDivisor 46 = .ok (.lreturn, 1) := by decide +kernel
theorem dX3_init_0 : decode cX3_init 0 = .ok (.aload_n 0, 1) := by decide +kernel
theorem dX3_init_1 : decode cX3_init 1 = .ok (.invokespecial 3, 3) := by decide +kernel
theorem dX3_init_4 : decode cX3_init 4 = .ok (.aload_n 0, 1) := by decide +kernel
theorem dX3_init_5 : decode cX3_init 5 = .ok (.new 9, 3) := by decide +kernel
theorem dX3_init_8 : decode cX3_init 8 = .ok (.dup, 1) := by decide +kernel
theorem dX3_init_9 : decode cX3_init 9 = .ok (.invokespecial 11, 3) := by decide +kernel
theorem dX3_init_12 : decode cX3_init 12 = .ok (.putfield 12, 3) := by decide +kernel
theorem dX3_init_15 : decode cX3_init 15 = .ok (.aload_n 0, 1) := by decide +kernel
theorem dX3_init_16 : decode cX3_init 16 = .ok (.sipush 200, 3) := by decide +kernel
theorem dX3_init_19 : decode cX3_init 19 = .ok (.putfield 18, 3) := by decide +kernel
theorem dX3_init_22 : decode cX3_init 22 = .ok (.aload_n 0, 1) := by decide +kernel
theorem dX3_init_23 : decode cX3_init 23 = .ok (.iconst 1, 1) := by decide +kernel
theorem dX3_init_24 : decode cX3_init 24 = .ok (.putfield 22, 3) := by decide +kernel
theorem dX3_init_27 : decode cX3_init 27 = .ok (.aload_n 0, 1) := by decide +kernel
theorem dX3_init_28 : decode cX3_init 28 = .ok (.bipush 8, 2) := by decide +kernel
theorem dX3_init_30 : decode cX3_init 30 = .ok (.anewarray 25, 3) := by decide +kernel
theorem dX3_init_33 : decode cX3_init 33 = .ok (.putfield 27, 3) := by decide +kernel
theorem dX3_init_36 : decode cX3_init 36 = .ok (.aload_n 0, 1) := by decide +kernel
theorem dX3_init_37 : decode cX3_init 37 = .ok (.iconst 2, 1) := by decide +kernel
theorem dX3_init_38 : decode cX3_init 38 = .ok (.anewarray 31, 3) := by decide +kernel
theorem dX3_init_41 : decode cX3_init 41 = .ok (.putfield 33, 3) := by decide +kernel
theorem dX3_init_44 : decode cX3_init 44 = .ok (.aload_n 0, 1) := by decide +kernel
theorem dX3_init_45 : decode cX3_init 45 = .ok (.sipush 2520, 3) := by decide +kernel
theorem dX3_init_48 : decode cX3_init 48 = .ok (.newarray .int, 2) := by decide +kernel
theorem dX3_init_50 : decode cX3_init 50 = .ok (.putfield 37, 3) := by decide +kernel
theorem dX3_init_53 : decode cX3_init 53 = .ok (.aload_n 0, 1) := by decide +kernel
theorem dX3_init_54 : decode cX3_init 54 = .ok (.bipush 12, 2) := by decide +kernel
theorem dX3_init_56 : decode cX3_init 56 = .ok (.iconst 4, 1) := by decide +kernel
theorem dX3_init_57 : decode cX3_init 57 = .ok (.multianewarray 41 2, 4) := by decide +kernel
theorem dX3_init_61 : decode cX3_init 61 = .ok (.putfield 43, 3) := by decide +kernel
theorem dX3_init_64 : decode cX3_init 64 = .ok (.aload_n 0, 1) := by decide +kernel
theorem dX3_init_65 : decode cX3_init 65 = .ok (.sipush 9600, 3) := by decide +kernel
theorem dX3_init_68 : decode cX3_init 68 = .ok (.newarray .int, 2) := by decide +kernel
theorem dX3_init_70 : decode cX3_init 70 = .ok (.putfield 46, 3) := by decide +kernel
theorem dX3_init_73 : decode cX3_init 73 = .ok (.aload_n 0, 1) := by decide +kernel
theorem dX3_init_74 : decode cX3_init 74 = .ok (.bipush 16, 2) := by decide +kernel
theorem dX3_init_76 : decode cX3_init 76 = .ok (.newarray .int, 2) := by decide +kernel
theorem dX3_init_78 : decode cX3_init 78 = .ok (.putfield 49, 3) := by decide +kernel
theorem dX3_init_81 : decode cX3_init 81 = .ok (.iconst 0, 1) := by decide +kernel
theorem dX3_init_82 : decode cX3_init 82 = .ok (.istore_n 1, 1) := by decide +kernel
theorem dX3_init_83 : decode cX3_init 83 = .ok (.iload_n 1, 1) := by decide +kernel
theorem dX3_init_84 : decode cX3_init 84 = .ok (.bipush 8, 2) := by decide +kernel
theorem dX3_init_86 : decode cX3_init 86 = .ok (.if_icmp .ge 22, 3) := by decide +kernel
theorem dX3_init_89 : decode cX3_init 89 = .ok (.aload_n 0, 1) := by decide +kernel
theorem dX3_init_90 : decode cX3_init 90 = .ok (.getfield 27, 3) := by decide +kernel
theorem dX3_init_93 : decode cX3_init 93 = .ok (.iload_n 1, 1) := by decide +kernel
theorem dX3_init_94 : decode cX3_init 94 = .ok (.new 25, 3) := by decide +kernel
theorem dX3_init_97 : decode cX3_init 97 = .ok (.dup, 1) := by decide +kernel
theorem dX3_init_98 : decode cX3_init 98 = .ok (.invokespecial 52, 3) := by decide +kernel
theorem dX3_init_101 : decode cX3_init 101 = .ok (.aastore, 1) := by decide +kernel
theorem dX3_init_102 : decode cX3_init 102 = .ok (.iinc 1 1, 3) := by decide +kernel
theorem dX3_init_105 : decode cX3_init 105 = .ok (.goto (-22), 3) := by decide +kernel
theorem dX3_init_108 : decode cX3_init 108 = .ok (.return_, 1) := by decide +kernel
theorem dX3_prepare_0 : decode cX3_prepare 0 = .ok (.aload_n 0, 1) := by decide +kernel
theorem dX3_prepare_1 : decode cX3_prepare 1 = .ok (.getfield 33, 3) := by decide +kernel
theorem dX3_prepare_4 : decode cX3_prepare 4 = .ok (.iconst 0, 1) := by decide +kernel
theorem dX3_prepare_5 : decode cX3_prepare 5 = .ok (.aload_n 1, 1) := by decide +kernel
theorem dX3_prepare_6 : decode cX3_prepare 6 = .ok (.aastore, 1) := by decide +kernel
theorem dX3_prepare_7 : decode cX3_prepare 7 = .ok (.aload_n 0, 1) := by decide +kernel
theorem dX3_prepare_8 : decode cX3_prepare 8 = .ok (.getfield 33, 3) := by decide +kernel
theorem dX3_prepare_11 : decode cX3_prepare 11 = .ok (.iconst 1, 1) := by decide +kernel
theorem dX3_prepare_12 : decode cX3_prepare 12 = .ok (.aconst_null, 1) := by decide +kernel
theorem dX3_prepare_13 : decode cX3_prepare 13 = .ok (.aastore, 1) := by decide +kernel
theorem dX3_prepare_14 : decode cX3_prepare 14 = .ok (.aload_n 0, 1) := by decide +kernel
theorem dX3_prepare_15 : decode cX3_prepare 15 = .ok (.aconst_null, 1) := by decide +kernel
theorem dX3_prepare_16 : decode cX3_prepare 16 = .ok (.putfield 53, 3) := by decide +kernel
theorem dX3_prepare_19 : decode cX3_prepare 19 = .ok (.aload_n 0, 1) := by decide +kernel
theorem dX3_prepare_20 : decode cX3_prepare 20 = .ok (.iload_n 2, 1) := by decide +kernel
theorem dX3_prepare_21 : decode cX3_prepare 21 = .ok (.putfield 57, 3) := by decide +kernel
theorem dX3_prepare_24 : decode cX3_prepare 24 = .ok (.aload_n 0, 1) := by decide +kernel
theorem dX3_prepare_25 : decode cX3_prepare 25 = .ok (.bipush (-2), 2) := by decide +kernel
theorem dX3_prepare_27 : decode cX3_prepare 27 = .ok (.putfield 60, 3) := by decide +kernel
theorem dX3_prepare_30 : decode cX3_prepare 30 = .ok (.aload_n 0, 1) := by decide +kernel
theorem dX3_prepare_31 : decode cX3_prepare 31 = .ok (.aconst_null, 1) := by decide +kernel
theorem dX3_prepare_32 : decode cX3_prepare 32 = .ok (.putfield 63, 3) := by decide +kernel
theorem dX3_prepare_35 : decode cX3_prepare 35 = .ok (.aload_n 0, 1) := by decide +kernel
theorem dX3_prepare_36 : decode cX3_prepare 36 = .ok (.iconst 0, 1) := by decide +kernel
theorem dX3_prepare_37 : decode cX3_prepare 37 = .ok (.putfield 67, 3) := by decide +kernel
theorem dX3_prepare_40 : decode cX3_prepare 40 = .ok (.return_, 1) := by decide +kernel
theorem dX3_takeBuild_0 : decode cX3_takeBuild 0 = .ok (.aload_n 0, 1) := by decide +kernel
theorem dX3_takeBuild_1 : decode cX3_takeBuild 1 = .ok (.aload_n 1, 1) := by decide +kernel
theorem dX3_takeBuild_2 : decode cX3_takeBuild 2 = .ok (.putfield 53, 3) := by decide +kernel
theorem dX3_takeBuild_5 : decode cX3_takeBuild 5 = .ok (.aload_n 0, 1) := by decide +kernel
theorem dX3_takeBuild_6 : decode cX3_takeBuild 6 = .ok (.getfield 33, 3) := by decide +kernel
theorem dX3_takeBuild_9 : decode cX3_takeBuild 9 = .ok (.iconst 1, 1) := by decide +kernel
theorem dX3_takeBuild_10 : decode cX3_takeBuild 10 = .ok (.aload_n 1, 1) := by decide +kernel
theorem dX3_takeBuild_11 : decode cX3_takeBuild 11 = .ok (.getfield 70, 3) := by decide +kernel
theorem dX3_takeBuild_14 : decode cX3_takeBuild 14 = .ok (.aastore, 1) := by decide +kernel
theorem dX3_takeBuild_15 : decode cX3_takeBuild 15 = .ok (.return_, 1) := by decide +kernel
theorem dX3_watch_0 : decode cX3_watch 0 = .ok (.aload_n 0, 1) := by decide +kernel
theorem dX3_watch_1 : decode cX3_watch 1 = .ok (.iload_n 1, 1) := by decide +kernel
theorem dX3_watch_2 : decode cX3_watch 2 = .ok (.putfield 67, 3) := by decide +kernel
theorem dX3_watch_5 : decode cX3_watch 5 = .ok (.iconst 0, 1) := by decide +kernel
theorem dX3_watch_6 : decode cX3_watch 6 = .ok (.istore_n 2, 1) := by decide +kernel
theorem dX3_watch_7 : decode cX3_watch 7 = .ok (.iload_n 2, 1) := by decide +kernel
theorem dX3_watch_8 : decode cX3_watch 8 = .ok (.bipush 8, 2) := by decide +kernel
theorem dX3_watch_10 : decode cX3_watch 10 = .ok (.if_icmp .ge 19, 3) := by decide +kernel
theorem dX3_watch_13 : decode cX3_watch 13 = .ok (.aload_n 0, 1) := by decide +kernel
theorem dX3_watch_14 : decode cX3_watch 14 = .ok (.getfield 27, 3) := by decide +kernel
theorem dX3_watch_17 : decode cX3_watch 17 = .ok (.iload_n 2, 1) := by decide +kernel
theorem dX3_watch_18 : decode cX3_watch 18 = .ok (.aaload, 1) := by decide +kernel
theorem dX3_watch_19 : decode cX3_watch 19 = .ok (.iconst 0, 1) := by decide +kernel
theorem dX3_watch_20 : decode cX3_watch 20 = .ok (.putfield 76, 3) := by decide +kernel
theorem dX3_watch_23 : decode cX3_watch 23 = .ok (.iinc 2 1, 3) := by decide +kernel
theorem dX3_watch_26 : decode cX3_watch 26 = .ok (.goto (-19), 3) := by decide +kernel
theorem dX3_watch_29 : decode cX3_watch 29 = .ok (.return_, 1) := by decide +kernel
theorem dX3_isSpent_0 : decode cX3_isSpent 0 = .ok (.aload_n 0, 1) := by decide +kernel
theorem dX3_isSpent_1 : decode cX3_isSpent 1 = .ok (.getfield 57, 3) := by decide +kernel
theorem dX3_isSpent_4 : decode cX3_isSpent 4 = .ok (.ifCond .ge 7, 3) := by decide +kernel
theorem dX3_isSpent_7 : decode cX3_isSpent 7 = .ok (.iconst 1, 1) := by decide +kernel
theorem dX3_isSpent_8 : decode cX3_isSpent 8 = .ok (.goto 4, 3) := by decide +kernel
theorem dX3_isSpent_11 : decode cX3_isSpent 11 = .ok (.iconst 0, 1) := by decide +kernel
theorem dX3_isSpent_12 : decode cX3_isSpent 12 = .ok (.ireturn, 1) := by decide +kernel
theorem dX3_beginRun_0 : decode cX3_beginRun 0 = .ok (.iconst 0, 1) := by decide +kernel
theorem dX3_beginRun_1 : decode cX3_beginRun 1 = .ok (.istore_n 1, 1) := by decide +kernel
theorem dX3_beginRun_2 : decode cX3_beginRun 2 = .ok (.iload_n 1, 1) := by decide +kernel
theorem dX3_beginRun_3 : decode cX3_beginRun 3 = .ok (.iconst 2, 1) := by decide +kernel
theorem dX3_beginRun_4 : decode cX3_beginRun 4 = .ok (.if_icmp .ge 82, 3) := by decide +kernel
theorem dX3_beginRun_7 : decode cX3_beginRun 7 = .ok (.aload_n 0, 1) := by decide +kernel
theorem dX3_beginRun_8 : decode cX3_beginRun 8 = .ok (.getfield 33, 3) := by decide +kernel
theorem dX3_beginRun_11 : decode cX3_beginRun 11 = .ok (.iload_n 1, 1) := by decide +kernel
theorem dX3_beginRun_12 : decode cX3_beginRun 12 = .ok (.aaload, 1) := by decide +kernel
theorem dX3_beginRun_13 : decode cX3_beginRun 13 = .ok (.astore_n 2, 1) := by decide +kernel
theorem dX3_beginRun_14 : decode cX3_beginRun 14 = .ok (.iconst 0, 1) := by decide +kernel
theorem dX3_beginRun_15 : decode cX3_beginRun 15 = .ok (.istore_n 3, 1) := by decide +kernel
theorem dX3_beginRun_16 : decode cX3_beginRun 16 = .ok (.aload_n 2, 1) := by decide +kernel
theorem dX3_beginRun_17 : decode cX3_beginRun 17 = .ok (.ifnull 63, 3) := by decide +kernel
theorem dX3_beginRun_20 : decode cX3_beginRun 20 = .ok (.iload_n 3, 1) := by decide +kernel
theorem dX3_beginRun_21 : decode cX3_beginRun 21 = .ok (.aload_n 2, 1) := by decide +kernel
theorem dX3_beginRun_22 : decode cX3_beginRun 22 = .ok (.getfield 79, 3) := by decide +kernel
theorem dX3_beginRun_25 : decode cX3_beginRun 25 = .ok (.invokevirtual 83, 3) := by decide +kernel
theorem dX3_beginRun_28 : decode cX3_beginRun 28 = .ok (.if_icmp .ge 52, 3) := by decide +kernel
theorem dX3_beginRun_31 : decode cX3_beginRun 31 = .ok (.aload_n 2, 1) := by decide +kernel
theorem dX3_beginRun_32 : decode cX3_beginRun 32 = .ok (.getfield 79, 3) := by decide +kernel
theorem dX3_beginRun_35 : decode cX3_beginRun 35 = .ok (.iload_n 3, 1) := by decide +kernel
theorem dX3_beginRun_36 : decode cX3_beginRun 36 = .ok (.invokevirtual 89, 3) := by decide +kernel
theorem dX3_beginRun_39 : decode cX3_beginRun 39 = .ok (.checkcast 93, 3) := by decide +kernel
theorem dX3_beginRun_42 : decode cX3_beginRun 42 = .ok (.astore 4, 2) := by decide +kernel
theorem dX3_beginRun_44 : decode cX3_beginRun 44 = .ok (.aload 4, 2) := by decide +kernel
theorem dX3_beginRun_46 : decode cX3_beginRun 46 = .ok (.getfield 95, 3) := by decide +kernel
theorem dX3_beginRun_49 : decode cX3_beginRun 49 = .ok (.iconst 2, 1) := by decide +kernel
theorem dX3_beginRun_50 : decode cX3_beginRun 50 = .ok (.if_icmp .ne 24, 3) := by decide +kernel
theorem dX3_beginRun_53 : decode cX3_beginRun 53 = .ok (.aload_n 0, 1) := by decide +kernel
theorem dX3_beginRun_54 : decode cX3_beginRun 54 = .ok (.getfield 46, 3) := by decide +kernel
theorem dX3_beginRun_57 : decode cX3_beginRun 57 = .ok (.iload_n 1, 1) := by decide +kernel
theorem dX3_beginRun_58 : decode cX3_beginRun 58 = .ok (.sipush 4800, 3) := by decide +kernel
theorem dX3_beginRun_61 : decode cX3_beginRun 61 = .ok (.imul, 1) := by decide +kernel
theorem dX3_beginRun_62 : decode cX3_beginRun 62 = .ok (.aload 4, 2) := by decide +kernel
theorem dX3_beginRun_64 : decode cX3_beginRun 64 = .ok (.getfield 98, 3) := by decide +kernel
theorem dX3_beginRun_67 : decode cX3_beginRun 67 = .ok (.iadd, 1) := by decide +kernel
theorem dX3_beginRun_68 : decode cX3_beginRun 68 = .ok (.aload 4, 2) := by decide +kernel
theorem dX3_beginRun_70 : decode cX3_beginRun 70 = .ok (.getfield 101, 3) := by decide +kernel
theorem dX3_beginRun_73 : decode cX3_beginRun 73 = .ok (.iastore, 1) := by decide +kernel
theorem dX3_beginRun_74 : decode cX3_beginRun 74 = .ok (.iinc 3 1, 3) := by decide +kernel
theorem dX3_beginRun_77 : decode cX3_beginRun 77 = .ok (.goto (-61), 3) := by decide +kernel
theorem dX3_beginRun_80 : decode cX3_beginRun 80 = .ok (.iinc 1 1, 3) := by decide +kernel
theorem dX3_beginRun_83 : decode cX3_beginRun 83 = .ok (.goto (-81), 3) := by decide +kernel
theorem dX3_beginRun_86 : decode cX3_beginRun 86 = .ok (.return_, 1) := by decide +kernel
theorem dX3_beginState_0 : decode cX3_beginState 0 = .ok (.aload_n 0, 1) := by decide +kernel
theorem dX3_beginState_1 : decode cX3_beginState 1 = .ok (.getfield 49, 3) := by decide +kernel
theorem dX3_beginState_4 : decode cX3_beginState 4 = .ok (.iconst 0, 1) := by decide +kernel
theorem dX3_beginState_5 : decode cX3_beginState 5 = .ok (.invokestatic 104, 3) := by decide +kernel
theorem dX3_beginState_8 : decode cX3_beginState 8 = .ok (.aload_n 0, 1) := by decide +kernel
theorem dX3_beginState_9 : decode cX3_beginState 9 = .ok (.aload_n 0, 1) := by decide +kernel
theorem dX3_beginState_10 : decode cX3_beginState 10 = .ok (.getfield 22, 3) := by decide +kernel
theorem dX3_beginState_13 : decode cX3_beginState 13 = .ok (.putfield 110, 3) := by decide +kernel
theorem dX3_beginState_16 : decode cX3_beginState 16 = .ok (.aload_n 0, 1) := by decide +kernel
theorem dX3_beginState_17 : decode cX3_beginState 17 = .ok (.getfield 12, 3) := by decide +kernel
theorem dX3_beginState_20 : decode cX3_beginState 20 = .ok (.iconst 0, 1) := by decide +kernel
theorem dX3_beginState_21 : decode cX3_beginState 21 = .ok (.putfield 113, 3) := by decide +kernel
theorem dX3_beginState_24 : decode cX3_beginState 24 = .ok (.aload_n 0, 1) := by decide +kernel
theorem dX3_beginState_25 : decode cX3_beginState 25 = .ok (.getfield 12, 3) := by decide +kernel
theorem dX3_beginState_28 : decode cX3_beginState 28 = .ok (.iconst 0, 1) := by decide +kernel
theorem dX3_beginState_29 : decode cX3_beginState 29 = .ok (.putfield 116, 3) := by decide +kernel
theorem dX3_beginState_32 : decode cX3_beginState 32 = .ok (.return_, 1) := by decide +kernel
theorem dX3_live_0 : decode cX3_live 0 = .ok (.aload_n 0, 1) := by decide +kernel
theorem dX3_live_1 : decode cX3_live 1 = .ok (.invokevirtual 119, 3) := by decide +kernel
theorem dX3_live_4 : decode cX3_live 4 = .ok (.aload_n 0, 1) := by decide +kernel
theorem dX3_live_5 : decode cX3_live 5 = .ok (.getfield 12, 3) := by decide +kernel
theorem dX3_live_8 : decode cX3_live 8 = .ok (.iconst 5, 1) := by decide +kernel
theorem dX3_live_9 : decode cX3_live 9 = .ok (.iconst 0, 1) := by decide +kernel
theorem dX3_live_10 : decode cX3_live 10 = .ok (.bipush (-2), 2) := by decide +kernel
theorem dX3_live_12 : decode cX3_live 12 = .ok (.invokevirtual 122, 3) := by decide +kernel
theorem dX3_live_15 : decode cX3_live 15 = .ok (.aload_n 1, 1) := by decide +kernel
theorem dX3_live_16 : decode cX3_live 16 = .ok (.getfield 126, 3) := by decide +kernel
theorem dX3_live_19 : decode cX3_live 19 = .ok (.ifCond .ne 31, 3) := by decide +kernel
theorem dX3_live_22 : decode cX3_live 22 = .ok (.aload_n 0, 1) := by decide +kernel
theorem dX3_live_23 : decode cX3_live 23 = .ok (.getfield 33, 3) := by decide +kernel
theorem dX3_live_26 : decode cX3_live 26 = .ok (.iconst 0, 1) := by decide +kernel
theorem dX3_live_27 : decode cX3_live 27 = .ok (.aaload, 1) := by decide +kernel
theorem dX3_live_28 : decode cX3_live 28 = .ok (.ifnull 22, 3) := by decide +kernel
theorem dX3_live_31 : decode cX3_live 31 = .ok (.aload_n 1, 1) := by decide +kernel
theorem dX3_live_32 : decode cX3_live 32 = .ok (.getfield 130, 3) := by decide +kernel
theorem dX3_live_35 : decode cX3_live 35 = .ok (.aload_n 0, 1) := by decide +kernel
theorem dX3_live_36 : decode cX3_live 36 = .ok (.getfield 33, 3) := by decide +kernel
theorem dX3_live_39 : decode cX3_live 39 = .ok (.iconst 0, 1) := by decide +kernel
theorem dX3_live_40 : decode cX3_live 40 = .ok (.aaload, 1) := by decide +kernel
theorem dX3_live_41 : decode cX3_live 41 = .ok (.getfield 133, 3) := by decide +kernel
theorem dX3_live_44 : decode cX3_live 44 = .ok (.invokevirtual 83, 3) := by decide +kernel
theorem dX3_live_47 : decode cX3_live 47 = .ok (.if_icmp .lt 4, 3) := by decide +kernel
theorem dX3_live_50 : decode cX3_live 50 = .ok (.return_, 1) := by decide +kernel
theorem dX3_live_51 : decode cX3_live 51 = .ok (.aload_n 0, 1) := by decide +kernel
theorem dX3_live_52 : decode cX3_live 52 = .ok (.getfield 33, 3) := by decide +kernel
theorem dX3_live_55 : decode cX3_live 55 = .ok (.iconst 0, 1) := by decide +kernel
theorem dX3_live_56 : decode cX3_live 56 = .ok (.aaload, 1) := by decide +kernel
theorem dX3_live_57 : decode cX3_live 57 = .ok (.getfield 133, 3) := by decide +kernel
theorem dX3_live_60 : decode cX3_live 60 = .ok (.aload_n 1, 1) := by decide +kernel
theorem dX3_live_61 : decode cX3_live 61 = .ok (.getfield 130, 3) := by decide +kernel
theorem dX3_live_64 : decode cX3_live 64 = .ok (.invokevirtual 89, 3) := by decide +kernel
theorem dX3_live_67 : decode cX3_live 67 = .ok (.checkcast 136, 3) := by decide +kernel
theorem dX3_live_70 : decode cX3_live 70 = .ok (.astore_n 2, 1) := by decide +kernel
theorem dX3_live_71 : decode cX3_live 71 = .ok (.iconst 1, 1) := by decide +kernel
theorem dX3_live_72 : decode cX3_live 72 = .ok (.istore_n 3, 1) := by decide +kernel
theorem dX3_live_73 : decode cX3_live 73 = .ok (.iconst 0, 1) := by decide +kernel
theorem dX3_live_74 : decode cX3_live 74 = .ok (.istore 4, 2) := by decide +kernel
theorem dX3_live_76 : decode cX3_live 76 = .ok (.iload 4, 2) := by decide +kernel
theorem dX3_live_78 : decode cX3_live 78 = .ok (.aload_n 2, 1) := by decide +kernel
theorem dX3_live_79 : decode cX3_live 79 = .ok (.getfield 138, 3) := by decide +kernel
theorem dX3_live_82 : decode cX3_live 82 = .ok (.if_icmp .ge 25, 3) := by decide +kernel
theorem dX3_live_85 : decode cX3_live 85 = .ok (.iload_n 3, 1) := by decide +kernel
theorem dX3_live_86 : decode cX3_live 86 = .ok (.ifCond .eq 21, 3) := by decide +kernel
theorem dX3_live_89 : decode cX3_live 89 = .ok (.aload_n 0, 1) := by decide +kernel
theorem dX3_live_90 : decode cX3_live 90 = .ok (.aload_n 2, 1) := by decide +kernel
theorem dX3_live_91 : decode cX3_live 91 = .ok (.getfield 141, 3) := by decide +kernel
theorem dX3_live_94 : decode cX3_live 94 = .ok (.iload 4, 2) := by decide +kernel
theorem dX3_live_96 : decode cX3_live 96 = .ok (.iaload, 1) := by decide +kernel
theorem dX3_live_97 : decode cX3_live 97 = .ok (.invokevirtual 144, 3) := by decide +kernel
theorem dX3_live_100 : decode cX3_live 100 = .ok (.istore_n 3, 1) := by decide +kernel
theorem dX3_live_101 : decode cX3_live 101 = .ok (.iinc 4 1, 3) := by decide +kernel
theorem dX3_live_104 : decode cX3_live 104 = .ok (.goto (-28), 3) := by decide +kernel
theorem dX3_live_107 : decode cX3_live 107 = .ok (.iload_n 3, 1) := by decide +kernel
theorem dX3_live_108 : decode cX3_live 108 = .ok (.ifCond .eq 31, 3) := by decide +kernel
theorem dX3_live_111 : decode cX3_live 111 = .ok (.aload_n 0, 1) := by decide +kernel
theorem dX3_live_112 : decode cX3_live 112 = .ok (.getfield 37, 3) := by decide +kernel
theorem dX3_live_115 : decode cX3_live 115 = .ok (.iconst 0, 1) := by decide +kernel
theorem dX3_live_116 : decode cX3_live 116 = .ok (.aload_n 1, 1) := by decide +kernel
theorem dX3_live_117 : decode cX3_live 117 = .ok (.getfield 101, 3) := by decide +kernel
theorem dX3_live_120 : decode cX3_live 120 = .ok (.iastore, 1) := by decide +kernel
theorem dX3_live_121 : decode cX3_live 121 = .ok (.aload_n 0, 1) := by decide +kernel
theorem dX3_live_122 : decode cX3_live 122 = .ok (.aload_n 1, 1) := by decide +kernel
theorem dX3_live_123 : decode cX3_live 123 = .ok (.getfield 148, 3) := by decide +kernel
theorem dX3_live_126 : decode cX3_live 126 = .ok (.invokevirtual 144, 3) := by decide +kernel
theorem dX3_live_129 : decode cX3_live 129 = .ok (.istore_n 3, 1) := by decide +kernel
theorem dX3_live_130 : decode cX3_live 130 = .ok (.aload_n 0, 1) := by decide +kernel
theorem dX3_live_131 : decode cX3_live 131 = .ok (.aload_n 1, 1) := by decide +kernel
theorem dX3_live_132 : decode cX3_live 132 = .ok (.iload_n 3, 1) := by decide +kernel
theorem dX3_live_133 : decode cX3_live 133 = .ok (.invokevirtual 151, 3) := by decide +kernel
theorem dX3_live_136 : decode cX3_live 136 = .ok (.goto 19, 3) := by decide +kernel
theorem dX3_live_139 : decode cX3_live 139 = .ok (.aload_n 0, 1) := by decide +kernel
theorem dX3_live_140 : decode cX3_live 140 = .ok (.getfield 12, 3) := by decide +kernel
theorem dX3_live_143 : decode cX3_live 143 = .ok (.iconst 3, 1) := by decide +kernel
theorem dX3_live_144 : decode cX3_live 144 = .ok (.aload_n 0, 1) := by decide +kernel
theorem dX3_live_145 : decode cX3_live 145 = .ok (.getfield 155, 3) := by decide +kernel
theorem dX3_live_148 : decode cX3_live 148 = .ok (.aload_n 0, 1) := by decide +kernel
theorem dX3_live_149 : decode cX3_live 149 = .ok (.getfield 158, 3) := by decide +kernel
theorem dX3_live_152 : decode cX3_live 152 = .ok (.invokevirtual 122, 3) := by decide +kernel
theorem dX3_live_155 : decode cX3_live 155 = .ok (.aload_n 2, 1) := by decide +kernel
theorem dX3_live_156 : decode cX3_live 156 = .ok (.getfield 161, 3) := by decide +kernel
theorem dX3_live_159 : decode cX3_live 159 = .ok (.iconst 1, 1) := by decide +kernel
theorem dX3_live_160 : decode cX3_live 160 = .ok (.isub, 1) := by decide +kernel
theorem dX3_live_161 : decode cX3_live 161 = .ok (.istore 4, 2) := by decide +kernel
theorem dX3_live_163 : decode cX3_live 163 = .ok (.iload 4, 2) := by decide +kernel
theorem dX3_live_165 : decode cX3_live 165 = .ok (.ifCond .lt 60, 3) := by decide +kernel
theorem dX3_live_168 : decode cX3_live 168 = .ok (.aload_n 0, 1) := by decide +kernel
theorem dX3_live_169 : decode cX3_live 169 = .ok (.getfield 164, 3) := by decide +kernel
theorem dX3_live_172 : decode cX3_live 172 = .ok (.iconst 3, 1) := by decide +kernel
theorem dX3_live_173 : decode cX3_live 173 = .ok (.if_icmp .eq 52, 3) := by decide +kernel
theorem dX3_live_176 : decode cX3_live 176 = .ok (.aload_n 0, 1) := by decide +kernel
theorem dX3_live_177 : decode cX3_live 177 = .ok (.aload_n 2, 1) := by decide +kernel
theorem dX3_live_178 : decode cX3_live 178 = .ok (.getfield 167, 3) := by decide +kernel
theorem dX3_live_181 : decode cX3_live 181 = .ok (.iload 4, 2) := by decide +kernel
theorem dX3_live_183 : decode cX3_live 183 = .ok (.iaload, 1) := by decide +kernel
theorem dX3_live_184 : decode cX3_live 184 = .ok (.invokevirtual 144, 3) := by decide +kernel
theorem dX3_live_187 : decode cX3_live 187 = .ok (.istore_n 3, 1) := by decide +kernel
theorem dX3_live_188 : decode cX3_live 188 = .ok (.iload_n 3, 1) := by decide +kernel
theorem dX3_live_189 : decode cX3_live 189 = .ok (.ifCond .ne 30, 3) := by decide +kernel
theorem dX3_live_192 : decode cX3_live 192 = .ok (.aload_n 0, 1) := by decide +kernel
theorem dX3_live_193 : decode cX3_live 193 = .ok (.getfield 12, 3) := by decide +kernel
theorem dX3_live_196 : decode cX3_live 196 = .ok (.getfield 170, 3) := by decide +kernel
theorem dX3_live_199 : decode cX3_live 199 = .ok (.iconst 1, 1) := by decide +kernel
theorem dX3_live_200 : decode cX3_live 200 = .ok (.if_icmp .ne 19, 3) := by decide +kernel
theorem dX3_live_203 : decode cX3_live 203 = .ok (.aload_n 0, 1) := by decide +kernel
theorem dX3_live_204 : decode cX3_live 204 = .ok (.getfield 12, 3) := by decide +kernel
theorem dX3_live_207 : decode cX3_live 207 = .ok (.iconst 4, 1) := by decide +kernel
theorem dX3_live_208 : decode cX3_live 208 = .ok (.aload_n 0, 1) := by decide +kernel
theorem dX3_live_209 : decode cX3_live 209 = .ok (.getfield 155, 3) := by decide +kernel
theorem dX3_live_212 : decode cX3_live 212 = .ok (.aload_n 0, 1) := by decide +kernel
theorem dX3_live_213 : decode cX3_live 213 = .ok (.getfield 158, 3) := by decide +kernel
theorem dX3_live_216 : decode cX3_live 216 = .ok (.invokevirtual 122, 3) := by decide +kernel
theorem dX3_live_219 : decode cX3_live 219 = .ok (.iinc 4 (-1), 3) := by decide +kernel
theorem dX3_live_222 : decode cX3_live 222 = .ok (.goto (-59), 3) := by decide +kernel
theorem dX3_live_225 : decode cX3_live 225 = .ok (.return_, 1) := by decide +kernel
theorem dX3_judge_0 : decode cX3_judge 0 = .ok (.aload_n 1, 1) := by decide +kernel
theorem dX3_judge_1 : decode cX3_judge 1 = .ok (.getfield 173, 3) := by decide +kernel
theorem dX3_judge_4 : decode cX3_judge 4 = .ok (.ifCond .ne 7, 3) := by decide +kernel
theorem dX3_judge_7 : decode cX3_judge 7 = .ok (.iload_n 2, 1) := by decide +kernel
theorem dX3_judge_8 : decode cX3_judge 8 = .ok (.goto 23, 3) := by decide +kernel
theorem dX3_judge_11 : decode cX3_judge 11 = .ok (.iload_n 2, 1) := by decide +kernel
theorem dX3_judge_12 : decode cX3_judge 12 = .ok (.ifCond .ne 18, 3) := by decide +kernel
theorem dX3_judge_15 : decode cX3_judge 15 = .ok (.aload_n 0, 1) := by decide +kernel
theorem dX3_judge_16 : decode cX3_judge 16 = .ok (.getfield 155, 3) := by decide +kernel
theorem dX3_judge_19 : decode cX3_judge 19 = .ok (.aload_n 1, 1) := by decide +kernel
theorem dX3_judge_20 : decode cX3_judge 20 = .ok (.getfield 173, 3) := by decide +kernel
theorem dX3_judge_23 : decode cX3_judge 23 = .ok (.if_icmp .ne 7, 3) := by decide +kernel
theorem dX3_judge_26 : decode cX3_judge 26 = .ok (.iconst 1, 1) := by decide +kernel
theorem dX3_judge_27 : decode cX3_judge 27 = .ok (.goto 4, 3) := by decide +kernel
theorem dX3_judge_30 : decode cX3_judge 30 = .ok (.iconst 0, 1) := by decide +kernel
theorem dX3_judge_31 : decode cX3_judge 31 = .ok (.istore_n 3, 1) := by decide +kernel
theorem dX3_judge_32 : decode cX3_judge 32 = .ok (.iload_n 3, 1) := by decide +kernel
theorem dX3_judge_33 : decode cX3_judge 33 = .ok (.ifCond .eq 17, 3) := by decide +kernel
theorem dX3_judge_36 : decode cX3_judge 36 = .ok (.aload_n 0, 1) := by decide +kernel
theorem dX3_judge_37 : decode cX3_judge 37 = .ok (.getfield 12, 3) := by decide +kernel
theorem dX3_judge_40 : decode cX3_judge 40 = .ok (.iconst 1, 1) := by decide +kernel
theorem dX3_judge_41 : decode cX3_judge 41 = .ok (.iconst 0, 1) := by decide +kernel
theorem dX3_judge_42 : decode cX3_judge 42 = .ok (.bipush (-2), 2) := by decide +kernel
theorem dX3_judge_44 : decode cX3_judge 44 = .ok (.invokevirtual 122, 3) := by decide +kernel
theorem dX3_judge_47 : decode cX3_judge 47 = .ok (.goto 37, 3) := by decide +kernel
theorem dX3_judge_50 : decode cX3_judge 50 = .ok (.iload_n 2, 1) := by decide +kernel
theorem dX3_judge_51 : decode cX3_judge 51 = .ok (.ifCond .eq 17, 3) := by decide +kernel
theorem dX3_judge_54 : decode cX3_judge 54 = .ok (.aload_n 0, 1) := by decide +kernel
theorem dX3_judge_55 : decode cX3_judge 55 = .ok (.getfield 12, 3) := by decide +kernel
theorem dX3_judge_58 : decode cX3_judge 58 = .ok (.iconst 2, 1) := by decide +kernel
theorem dX3_judge_59 : decode cX3_judge 59 = .ok (.iconst 4, 1) := by decide +kernel
theorem dX3_judge_60 : decode cX3_judge 60 = .ok (.bipush (-2), 2) := by decide +kernel
theorem dX3_judge_62 : decode cX3_judge 62 = .ok (.invokevirtual 122, 3) := by decide +kernel
theorem dX3_judge_65 : decode cX3_judge 65 = .ok (.goto 19, 3) := by decide +kernel
theorem dX3_judge_68 : decode cX3_judge 68 = .ok (.aload_n 0, 1) := by decide +kernel
theorem dX3_judge_69 : decode cX3_judge 69 = .ok (.getfield 12, 3) := by decide +kernel
theorem dX3_judge_72 : decode cX3_judge 72 = .ok (.iconst 2, 1) := by decide +kernel
theorem dX3_judge_73 : decode cX3_judge 73 = .ok (.aload_n 0, 1) := by decide +kernel
theorem dX3_judge_74 : decode cX3_judge 74 = .ok (.getfield 155, 3) := by decide +kernel
theorem dX3_judge_77 : decode cX3_judge 77 = .ok (.aload_n 0, 1) := by decide +kernel
theorem dX3_judge_78 : decode cX3_judge 78 = .ok (.getfield 158, 3) := by decide +kernel
theorem dX3_judge_81 : decode cX3_judge 81 = .ok (.invokevirtual 122, 3) := by decide +kernel
theorem dX3_judge_84 : decode cX3_judge 84 = .ok (.return_, 1) := by decide +kernel
theorem dX3_holds_0 : decode cX3_holds 0 = .ok (.aload_n 0, 1) := by decide +kernel
theorem dX3_holds_1 : decode cX3_holds 1 = .ok (.invokevirtual 176, 3) := by decide +kernel
theorem dX3_holds_4 : decode cX3_holds 4 = .ok (.aload_n 0, 1) := by decide +kernel
theorem dX3_holds_5 : decode cX3_holds 5 = .ok (.invokevirtual 119, 3) := by decide +kernel
theorem dX3_holds_8 : decode cX3_holds 8 = .ok (.aload_n 2, 1) := by decide +kernel
theorem dX3_holds_9 : decode cX3_holds 9 = .ok (.iconst 0, 1) := by decide +kernel
theorem dX3_holds_10 : decode cX3_holds 10 = .ok (.aload_n 0, 1) := by decide +kernel
theorem dX3_holds_11 : decode cX3_holds 11 = .ok (.getfield 37, 3) := by decide +kernel
theorem dX3_holds_14 : decode cX3_holds 14 = .ok (.iconst 0, 1) := by decide +kernel
theorem dX3_holds_15 : decode cX3_holds 15 = .ok (.iconst 4, 1) := by decide +kernel
theorem dX3_holds_16 : decode cX3_holds 16 = .ok (.invokestatic 179, 3) := by decide +kernel
theorem dX3_holds_19 : decode cX3_holds 19 = .ok (.aload_n 0, 1) := by decide +kernel
theorem dX3_holds_20 : decode cX3_holds 20 = .ok (.aload_n 1, 1) := by decide +kernel
theorem dX3_holds_21 : decode cX3_holds 21 = .ok (.getfield 148, 3) := by decide +kernel
theorem dX3_holds_24 : decode cX3_holds 24 = .ok (.invokevirtual 144, 3) := by decide +kernel
theorem dX3_holds_27 : decode cX3_holds 27 = .ok (.istore_n 3, 1) := by decide +kernel
theorem dX3_holds_28 : decode cX3_holds 28 = .ok (.iload_n 3, 1) := by decide +kernel
theorem dX3_holds_29 : decode cX3_holds 29 = .ok (.ifCond .ne 10, 3) := by decide +kernel
theorem dX3_holds_32 : decode cX3_holds 32 = .ok (.aload_n 2, 1) := by decide +kernel
theorem dX3_holds_33 : decode cX3_holds 33 = .ok (.iconst 4, 1) := by decide +kernel
theorem dX3_holds_34 : decode cX3_holds 34 = .ok (.aload_n 0, 1) := by decide +kernel
theorem dX3_holds_35 : decode cX3_holds 35 = .ok (.getfield 155, 3) := by decide +kernel
theorem dX3_holds_38 : decode cX3_holds 38 = .ok (.iastore, 1) := by decide +kernel
theorem dX3_holds_39 : decode cX3_holds 39 = .ok (.aload_n 2, 1) := by decide +kernel
theorem dX3_holds_40 : decode cX3_holds 40 = .ok (.iconst 5, 1) := by decide +kernel
theorem dX3_holds_41 : decode cX3_holds 41 = .ok (.dup2, 1) := by decide +kernel
theorem dX3_holds_42 : decode cX3_holds 42 = .ok (.iaload, 1) := by decide +kernel
theorem dX3_holds_43 : decode cX3_holds 43 = .ok (.iconst 1, 1) := by decide +kernel
theorem dX3_holds_44 : decode cX3_holds 44 = .ok (.iadd, 1) := by decide +kernel
theorem dX3_holds_45 : decode cX3_holds 45 = .ok (.iastore, 1) := by decide +kernel
theorem dX3_holds_46 : decode cX3_holds 46 = .ok (.iload_n 3, 1) := by decide +kernel
theorem dX3_holds_47 : decode cX3_holds 47 = .ok (.ireturn, 1) := by decide +kernel
theorem dX3_execute_0 : decode cX3_execute 0 = .ok (.aload_n 0, 1) := by decide +kernel
theorem dX3_execute_1 : decode cX3_execute 1 = .ok (.iconst 0, 1) := by decide +kernel
theorem dX3_execute_2 : decode cX3_execute 2 = .ok (.putfield 164, 3) := by decide +kernel
theorem dX3_execute_5 : decode cX3_execute 5 = .ok (.aload_n 0, 1) := by decide +kernel
theorem dX3_execute_6 : decode cX3_execute 6 = .ok (.iconst 0, 1) := by decide +kernel
theorem dX3_execute_7 : decode cX3_execute 7 = .ok (.putfield 185, 3) := by decide +kernel
theorem dX3_execute_10 : decode cX3_execute 10 = .ok (.aload_n 0, 1) := by decide +kernel
theorem dX3_execute_11 : decode cX3_execute 11 = .ok (.iconst 0, 1) := by decide +kernel
theorem dX3_execute_12 : decode cX3_execute 12 = .ok (.putfield 188, 3) := by decide +kernel
theorem dX3_execute_15 : decode cX3_execute 15 = .ok (.aload_n 0, 1) := by decide +kernel
theorem dX3_execute_16 : decode cX3_execute 16 = .ok (.iload_n 1, 1) := by decide +kernel
theorem dX3_execute_17 : decode cX3_execute 17 = .ok (.iconst 0, 1) := by decide +kernel
theorem dX3_execute_18 : decode cX3_execute 18 = .ok (.iconst 0, 1) := by decide +kernel
theorem dX3_execute_19 : decode cX3_execute 19 = .ok (.bipush (-2), 2) := by decide +kernel
theorem dX3_execute_21 : decode cX3_execute 21 = .ok (.invokevirtual 191, 3) := by decide +kernel
theorem dX3_execute_24 : decode cX3_execute 24 = .ok (.iconst 0, 1) := by decide +kernel
theorem dX3_execute_25 : decode cX3_execute 25 = .ok (.istore_n 2, 1) := by decide +kernel
theorem dX3_execute_26 : decode cX3_execute 26 = .ok (.iload_n 2, 1) := by decide +kernel
theorem dX3_execute_27 : decode cX3_execute 27 = .ok (.ldc 195, 2) := by decide +kernel
theorem dX3_execute_29 : decode cX3_execute 29 = .ok (.if_icmp .ge 97, 3) := by decide +kernel
theorem dX3_execute_32 : decode cX3_execute 32 = .ok (.aload_n 0, 1) := by decide +kernel
theorem dX3_execute_33 : decode cX3_execute 33 = .ok (.getfield 188, 3) := by decide +kernel
theorem dX3_execute_36 : decode cX3_execute 36 = .ok (.ifCond .le 90, 3) := by decide +kernel
theorem dX3_execute_39 : decode cX3_execute 39 = .ok (.aload_n 0, 1) := by decide +kernel
theorem dX3_execute_40 : decode cX3_execute 40 = .ok (.getfield 43, 3) := by decide +kernel
theorem dX3_execute_43 : decode cX3_execute 43 = .ok (.aload_n 0, 1) := by decide +kernel
theorem dX3_execute_44 : decode cX3_execute 44 = .ok (.getfield 188, 3) := by decide +kernel
theorem dX3_execute_47 : decode cX3_execute 47 = .ok (.iconst 1, 1) := by decide +kernel
theorem dX3_execute_48 : decode cX3_execute 48 = .ok (.isub, 1) := by decide +kernel
theorem dX3_execute_49 : decode cX3_execute 49 = .ok (.aaload, 1) := by decide +kernel
theorem dX3_execute_50 : decode cX3_execute 50 = .ok (.astore_n 3, 1) := by decide +kernel
theorem dX3_execute_51 : decode cX3_execute 51 = .ok (.aload_n 0, 1) := by decide +kernel
theorem dX3_execute_52 : decode cX3_execute 52 = .ok (.getfield 33, 3) := by decide +kernel
theorem dX3_execute_55 : decode cX3_execute 55 = .ok (.aload_n 3, 1) := by decide +kernel
theorem dX3_execute_56 : decode cX3_execute 56 = .ok (.iconst 2, 1) := by decide +kernel
theorem dX3_execute_57 : decode cX3_execute 57 = .ok (.iaload, 1) := by decide +kernel
theorem dX3_execute_58 : decode cX3_execute 58 = .ok (.aaload, 1) := by decide +kernel
theorem dX3_execute_59 : decode cX3_execute 59 = .ok (.astore 4, 2) := by decide +kernel
theorem dX3_execute_61 : decode cX3_execute 61 = .ok (.aload 4, 2) := by decide +kernel
theorem dX3_execute_63 : decode cX3_execute 63 = .ok (.ifnull 20, 3) := by decide +kernel
theorem dX3_execute_66 : decode cX3_execute 66 = .ok (.aload_n 3, 1) := by decide +kernel
theorem dX3_execute_67 : decode cX3_execute 67 = .ok (.iconst 0, 1) := by decide +kernel
theorem dX3_execute_68 : decode cX3_execute 68 = .ok (.iaload, 1) := by decide +kernel
theorem dX3_execute_69 : decode cX3_execute 69 = .ok (.ifCond .lt 14, 3) := by decide +kernel
theorem dX3_execute_72 : decode cX3_execute 72 = .ok (.aload_n 3, 1) := by decide +kernel
theorem dX3_execute_73 : decode cX3_execute 73 = .ok (.iconst 0, 1) := by decide +kernel
theorem dX3_execute_74 : decode cX3_execute 74 = .ok (.iaload, 1) := by decide +kernel
theorem dX3_execute_75 : decode cX3_execute 75 = .ok (.aload 4, 2) := by decide +kernel
theorem dX3_execute_77 : decode cX3_execute 77 = .ok (.getfield 196, 3) := by decide +kernel
theorem dX3_execute_80 : decode cX3_execute 80 = .ok (.if_icmp .lt 11, 3) := by decide +kernel
theorem dX3_execute_83 : decode cX3_execute 83 = .ok (.aload_n 0, 1) := by decide +kernel
theorem dX3_execute_84 : decode cX3_execute 84 = .ok (.iconst 0, 1) := by decide +kernel
theorem dX3_execute_85 : decode cX3_execute 85 = .ok (.putfield 188, 3) := by decide +kernel
theorem dX3_execute_88 : decode cX3_execute 88 = .ok (.goto 32, 3) := by decide +kernel
theorem dX3_execute_91 : decode cX3_execute 91 = .ok (.aload_n 0, 1) := by decide +kernel
theorem dX3_execute_92 : decode cX3_execute 92 = .ok (.getfield 185, 3) := by decide +kernel
theorem dX3_execute_95 : decode cX3_execute 95 = .ok (.ifCond .ne 13, 3) := by decide +kernel
theorem dX3_execute_98 : decode cX3_execute 98 = .ok (.aload_n 0, 1) := by decide +kernel
theorem dX3_execute_99 : decode cX3_execute 99 = .ok (.aload 4, 2) := by decide +kernel
theorem dX3_execute_101 : decode cX3_execute 101 = .ok (.aload_n 3, 1) := by decide +kernel
theorem dX3_execute_102 : decode cX3_execute 102 = .ok (.invokevirtual 198, 3) := by decide +kernel
theorem dX3_execute_105 : decode cX3_execute 105 = .ok (.ifCond .eq 15, 3) := by decide +kernel
theorem dX3_execute_108 : decode cX3_execute 108 = .ok (.aload_n 0, 1) := by decide +kernel
theorem dX3_execute_109 : decode cX3_execute 109 = .ok (.iconst 0, 1) := by decide +kernel
theorem dX3_execute_110 : decode cX3_execute 110 = .ok (.putfield 185, 3) := by decide +kernel
theorem dX3_execute_113 : decode cX3_execute 113 = .ok (.aload_n 0, 1) := by decide +kernel
theorem dX3_execute_114 : decode cX3_execute 114 = .ok (.aload 4, 2) := by decide +kernel
theorem dX3_execute_116 : decode cX3_execute 116 = .ok (.aload_n 3, 1) := by decide +kernel
theorem dX3_execute_117 : decode cX3_execute 117 = .ok (.invokevirtual 202, 3) := by decide +kernel
theorem dX3_execute_120 : decode cX3_execute 120 = .ok (.iinc 2 1, 3) := by decide +kernel
theorem dX3_execute_123 : decode cX3_execute 123 = .ok (.goto (-97), 3) := by decide +kernel
theorem dX3_execute_126 : decode cX3_execute 126 = .ok (.aload_n 0, 1) := by decide +kernel
theorem dX3_execute_127 : decode cX3_execute 127 = .ok (.getfield 164, 3) := by decide +kernel
theorem dX3_execute_130 : decode cX3_execute 130 = .ok (.ifCond .ne 7, 3) := by decide +kernel
theorem dX3_execute_133 : decode cX3_execute 133 = .ok (.iconst 1, 1) := by decide +kernel
theorem dX3_execute_134 : decode cX3_execute 134 = .ok (.goto 4, 3) := by decide +kernel
theorem dX3_execute_137 : decode cX3_execute 137 = .ok (.iconst 0, 1) := by decide +kernel
theorem dX3_execute_138 : decode cX3_execute 138 = .ok (.ireturn, 1) := by decide +kernel
theorem dX3_enter_0 : decode cX3_enter 0 = .ok (.aload_n 0, 1) := by decide +kernel
theorem dX3_enter_1 : decode cX3_enter 1 = .ok (.getfield 43, 3) := by decide +kernel
theorem dX3_enter_4 : decode cX3_enter 4 = .ok (.aload_n 0, 1) := by decide +kernel
theorem dX3_enter_5 : decode cX3_enter 5 = .ok (.getfield 188, 3) := by decide +kernel
theorem dX3_enter_8 : decode cX3_enter 8 = .ok (.aaload, 1) := by decide +kernel
theorem dX3_enter_9 : decode cX3_enter 9 = .ok (.astore 5, 2) := by decide +kernel
theorem dX3_enter_11 : decode cX3_enter 11 = .ok (.aload 5, 2) := by decide +kernel
theorem dX3_enter_13 : decode cX3_enter 13 = .ok (.iconst 0, 1) := by decide +kernel
theorem dX3_enter_14 : decode cX3_enter 14 = .ok (.iload_n 1, 1) := by decide +kernel
theorem dX3_enter_15 : decode cX3_enter 15 = .ok (.iastore, 1) := by decide +kernel
theorem dX3_enter_16 : decode cX3_enter 16 = .ok (.aload 5, 2) := by decide +kernel
theorem dX3_enter_18 : decode cX3_enter 18 = .ok (.iconst 1, 1) := by decide +kernel
theorem dX3_enter_19 : decode cX3_enter 19 = .ok (.iload_n 2, 1) := by decide +kernel
theorem dX3_enter_20 : decode cX3_enter 20 = .ok (.iastore, 1) := by decide +kernel
theorem dX3_enter_21 : decode cX3_enter 21 = .ok (.aload 5, 2) := by decide +kernel
theorem dX3_enter_23 : decode cX3_enter 23 = .ok (.iconst 2, 1) := by decide +kernel
theorem dX3_enter_24 : decode cX3_enter 24 = .ok (.iload_n 3, 1) := by decide +kernel
theorem dX3_enter_25 : decode cX3_enter 25 = .ok (.iastore, 1) := by decide +kernel
theorem dX3_enter_26 : decode cX3_enter 26 = .ok (.aload 5, 2) := by decide +kernel
theorem dX3_enter_28 : decode cX3_enter 28 = .ok (.iconst 3, 1) := by decide +kernel
theorem dX3_enter_29 : decode cX3_enter 29 = .ok (.iload 4, 2) := by decide +kernel
theorem dX3_enter_31 : decode cX3_enter 31 = .ok (.iastore, 1) := by decide +kernel
theorem dX3_enter_32 : decode cX3_enter 32 = .ok (.aload_n 0, 1) := by decide +kernel
theorem dX3_enter_33 : decode cX3_enter 33 = .ok (.dup, 1) := by decide +kernel
theorem dX3_enter_34 : decode cX3_enter 34 = .ok (.getfield 188, 3) := by decide +kernel
theorem dX3_enter_37 : decode cX3_enter 37 = .ok (.iconst 1, 1) := by decide +kernel
theorem dX3_enter_38 : decode cX3_enter 38 = .ok (.iadd, 1) := by decide +kernel
theorem dX3_enter_39 : decode cX3_enter 39 = .ok (.putfield 188, 3) := by decide +kernel
theorem dX3_enter_42 : decode cX3_enter 42 = .ok (.aload_n 0, 1) := by decide +kernel
theorem dX3_enter_43 : decode cX3_enter 43 = .ok (.iload_n 2, 1) := by decide +kernel
theorem dX3_enter_44 : decode cX3_enter 44 = .ok (.bipush 10, 2) := by decide +kernel
theorem dX3_enter_46 : decode cX3_enter 46 = .ok (.iadd, 1) := by decide +kernel
theorem dX3_enter_47 : decode cX3_enter 47 = .ok (.putfield 206, 3) := by decide +kernel
theorem dX3_enter_50 : decode cX3_enter 50 = .ok (.return_, 1) := by decide +kernel
theorem dX3_begins_0 : decode cX3_begins 0 = .ok (.aload_n 0, 1) := by decide +kernel
theorem dX3_begins_1 : decode cX3_begins 1 = .ok (.getfield 12, 3) := by decide +kernel
theorem dX3_begins_4 : decode cX3_begins 4 = .ok (.getfield 113, 3) := by decide +kernel
theorem dX3_begins_7 : decode cX3_begins 7 = .ok (.aload_n 0, 1) := by decide +kernel
theorem dX3_begins_8 : decode cX3_begins 8 = .ok (.getfield 18, 3) := by decide +kernel
theorem dX3_begins_11 : decode cX3_begins 11 = .ok (.if_icmp .lt 7, 3) := by decide +kernel
theorem dX3_begins_14 : decode cX3_begins 14 = .ok (.iconst 1, 1) := by decide +kernel
theorem dX3_begins_15 : decode cX3_begins 15 = .ok (.goto 4, 3) := by decide +kernel
theorem dX3_begins_18 : decode cX3_begins 18 = .ok (.iconst 0, 1) := by decide +kernel
theorem dX3_begins_19 : decode cX3_begins 19 = .ok (.istore_n 3, 1) := by decide +kernel
theorem dX3_begins_20 : decode cX3_begins 20 = .ok (.iload_n 3, 1) := by decide +kernel
theorem dX3_begins_21 : decode cX3_begins 21 = .ok (.ifCond .ne 10, 3) := by decide +kernel
theorem dX3_begins_24 : decode cX3_begins 24 = .ok (.aload_n 0, 1) := by decide +kernel
theorem dX3_begins_25 : decode cX3_begins 25 = .ok (.getfield 57, 3) := by decide +kernel
theorem dX3_begins_28 : decode cX3_begins 28 = .ok (.ifCond .gt 52, 3) := by decide +kernel
theorem dX3_begins_31 : decode cX3_begins 31 = .ok (.aload_n 0, 1) := by decide +kernel
theorem dX3_begins_32 : decode cX3_begins 32 = .ok (.iload_n 3, 1) := by decide +kernel
theorem dX3_begins_33 : decode cX3_begins 33 = .ok (.ifCond .eq 10, 3) := by decide +kernel
theorem dX3_begins_36 : decode cX3_begins 36 = .ok (.aload_n 0, 1) := by decide +kernel
theorem dX3_begins_37 : decode cX3_begins 37 = .ok (.getfield 57, 3) := by decide +kernel
theorem dX3_begins_40 : decode cX3_begins 40 = .ok (.goto 4, 3) := by decide +kernel
theorem dX3_begins_43 : decode cX3_begins 43 = .ok (.iconst (-1), 1) := by decide +kernel
theorem dX3_begins_44 : decode cX3_begins 44 = .ok (.putfield 57, 3) := by decide +kernel
theorem dX3_begins_47 : decode cX3_begins 47 = .ok (.aload_n 0, 1) := by decide +kernel
theorem dX3_begins_48 : decode cX3_begins 48 = .ok (.iconst 3, 1) := by decide +kernel
theorem dX3_begins_49 : decode cX3_begins 49 = .ok (.putfield 164, 3) := by decide +kernel
theorem dX3_begins_52 : decode cX3_begins 52 = .ok (.aload_n 0, 1) := by decide +kernel
theorem dX3_begins_53 : decode cX3_begins 53 = .ok (.bipush 6, 2) := by decide +kernel
theorem dX3_begins_55 : decode cX3_begins 55 = .ok (.putfield 155, 3) := by decide +kernel
theorem dX3_begins_58 : decode cX3_begins 58 = .ok (.aload_n 0, 1) := by decide +kernel
theorem dX3_begins_59 : decode cX3_begins 59 = .ok (.aload_n 2, 1) := by decide +kernel
theorem dX3_begins_60 : decode cX3_begins 60 = .ok (.iconst 0, 1) := by decide +kernel
theorem dX3_begins_61 : decode cX3_begins 61 = .ok (.iaload, 1) := by decide +kernel
theorem dX3_begins_62 : decode cX3_begins 62 = .ok (.sipush 1000, 3) := by decide +kernel
theorem dX3_begins_65 : decode cX3_begins 65 = .ok (.aload_n 2, 1) := by decide +kernel
theorem dX3_begins_66 : decode cX3_begins 66 = .ok (.iconst 2, 1) := by decide +kernel
theorem dX3_begins_67 : decode cX3_begins 67 = .ok (.iaload, 1) := by decide +kernel
theorem dX3_begins_68 : decode cX3_begins 68 = .ok (.imul, 1) := by decide +kernel
theorem dX3_begins_69 : decode cX3_begins 69 = .ok (.iadd, 1) := by decide +kernel
theorem dX3_begins_70 : decode cX3_begins 70 = .ok (.putfield 158, 3) := by decide +kernel
theorem dX3_begins_73 : decode cX3_begins 73 = .ok (.aload_n 0, 1) := by decide +kernel
theorem dX3_begins_74 : decode cX3_begins 74 = .ok (.iconst 0, 1) := by decide +kernel
theorem dX3_begins_75 : decode cX3_begins 75 = .ok (.putfield 188, 3) := by decide +kernel
theorem dX3_begins_78 : decode cX3_begins 78 = .ok (.iconst 0, 1) := by decide +kernel
theorem dX3_begins_79 : decode cX3_begins 79 = .ok (.ireturn, 1) := by decide +kernel
theorem dX3_begins_80 : decode cX3_begins 80 = .ok (.aload_n 0, 1) := by decide +kernel
theorem dX3_begins_81 : decode cX3_begins 81 = .ok (.getfield 12, 3) := by decide +kernel
theorem dX3_begins_84 : decode cX3_begins 84 = .ok (.dup, 1) := by decide +kernel
theorem dX3_begins_85 : decode cX3_begins 85 = .ok (.getfield 113, 3) := by decide +kernel
theorem dX3_begins_88 : decode cX3_begins 88 = .ok (.iconst 1, 1) := by decide +kernel
theorem dX3_begins_89 : decode cX3_begins 89 = .ok (.iadd, 1) := by decide +kernel
theorem dX3_begins_90 : decode cX3_begins 90 = .ok (.putfield 113, 3) := by decide +kernel
theorem dX3_begins_93 : decode cX3_begins 93 = .ok (.aload_n 0, 1) := by decide +kernel
theorem dX3_begins_94 : decode cX3_begins 94 = .ok (.dup, 1) := by decide +kernel
theorem dX3_begins_95 : decode cX3_begins 95 = .ok (.getfield 57, 3) := by decide +kernel
theorem dX3_begins_98 : decode cX3_begins 98 = .ok (.iconst 1, 1) := by decide +kernel
theorem dX3_begins_99 : decode cX3_begins 99 = .ok (.isub, 1) := by decide +kernel
theorem dX3_begins_100 : decode cX3_begins 100 = .ok (.putfield 57, 3) := by decide +kernel
theorem dX3_begins_103 : decode cX3_begins 103 = .ok (.aload_n 0, 1) := by decide +kernel
theorem dX3_begins_104 : decode cX3_begins 104 = .ok (.getfield 67, 3) := by decide +kernel
theorem dX3_begins_107 : decode cX3_begins 107 = .ok (.iconst 2, 1) := by decide +kernel
theorem dX3_begins_108 : decode cX3_begins 108 = .ok (.if_icmp .ne 14, 3) := by decide +kernel
theorem dX3_begins_111 : decode cX3_begins 111 = .ok (.aload_n 1, 1) := by decide +kernel
theorem dX3_begins_112 : decode cX3_begins 112 = .ok (.aload_n 2, 1) := by decide +kernel
theorem dX3_begins_113 : decode cX3_begins 113 = .ok (.iconst 0, 1) := by decide +kernel
theorem dX3_begins_114 : decode cX3_begins 114 = .ok (.iaload, 1) := by decide +kernel
theorem dX3_begins_115 : decode cX3_begins 115 = .ok (.aload_n 0, 1) := by decide +kernel
theorem dX3_begins_116 : decode cX3_begins 116 = .ok (.getfield 209, 3) := by decide +kernel
theorem dX3_begins_119 : decode cX3_begins 119 = .ok (.invokevirtual 212, 3) := by decide +kernel
theorem dX3_begins_122 : decode cX3_begins 122 = .ok (.iconst 1, 1) := by decide +kernel
theorem dX3_begins_123 : decode cX3_begins 123 = .ok (.ireturn, 1) := by decide +kernel
theorem dX3_obey_0 : decode cX3_obey 0 = .ok (.aload_n 2, 1) := by decide +kernel
theorem dX3_obey_1 : decode cX3_obey 1 = .ok (.iconst 0, 1) := by decide +kernel
theorem dX3_obey_2 : decode cX3_obey 2 = .ok (.iaload, 1) := by decide +kernel
theorem dX3_obey_3 : decode cX3_obey 3 = .ok (.istore_n 3, 1) := by decide +kernel
theorem dX3_obey_4 : decode cX3_obey 4 = .ok (.aload_n 1, 1) := by decide +kernel
theorem dX3_obey_5 : decode cX3_obey 5 = .ok (.getfield 216, 3) := by decide +kernel
theorem dX3_obey_8 : decode cX3_obey 8 = .ok (.iload_n 3, 1) := by decide +kernel
theorem dX3_obey_9 : decode cX3_obey 9 = .ok (.iaload, 1) := by decide +kernel
theorem dX3_obey_10 : decode cX3_obey 10 = .ok (.istore 4, 2) := by decide +kernel
theorem dX3_obey_12 : decode cX3_obey 12 = .ok (.aload_n 1, 1) := by decide +kernel
theorem dX3_obey_13 : decode cX3_obey 13 = .ok (.getfield 219, 3) := by decide +kernel
theorem dX3_obey_16 : decode cX3_obey 16 = .ok (.iload_n 3, 1) := by decide +kernel
theorem dX3_obey_17 : decode cX3_obey 17 = .ok (.iaload, 1) := by decide +kernel
theorem dX3_obey_18 : decode cX3_obey 18 = .ok (.istore 5, 2) := by decide +kernel
theorem dX3_obey_20 : decode cX3_obey 20 = .ok (.iload_n 3, 1) := by decide +kernel
theorem dX3_obey_21 : decode cX3_obey 21 = .ok (.aload_n 0, 1) := by decide +kernel
theorem dX3_obey_22 : decode cX3_obey 22 = .ok (.getfield 60, 3) := by decide +kernel
theorem dX3_obey_25 : decode cX3_obey 25 = .ok (.if_icmp .ne 26, 3) := by decide +kernel
theorem dX3_obey_28 : decode cX3_obey 28 = .ok (.iload 5, 2) := by decide +kernel
theorem dX3_obey_30 : decode cX3_obey 30 = .ok (.iload 4, 2) := by decide +kernel
theorem dX3_obey_32 : decode cX3_obey 32 = .ok (.ifCond .ne 7, 3) := by decide +kernel
theorem dX3_obey_35 : decode cX3_obey 35 = .ok (.iconst 1, 1) := by decide +kernel
theorem dX3_obey_36 : decode cX3_obey 36 = .ok (.goto 4, 3) := by decide +kernel
theorem dX3_obey_39 : decode cX3_obey 39 = .ok (.iconst 0, 1) := by decide +kernel
theorem dX3_obey_40 : decode cX3_obey 40 = .ok (.iadd, 1) := by decide +kernel
theorem dX3_obey_41 : decode cX3_obey 41 = .ok (.istore 5, 2) := by decide +kernel
theorem dX3_obey_43 : decode cX3_obey 43 = .ok (.getstatic 222, 3) := by decide +kernel
theorem dX3_obey_46 : decode cX3_obey 46 = .ok (.iload 4, 2) := by decide +kernel
theorem dX3_obey_48 : decode cX3_obey 48 = .ok (.iaload, 1) := by decide +kernel
theorem dX3_obey_49 : decode cX3_obey 49 = .ok (.istore 4, 2) := by decide +kernel
theorem dX3_obey_51 : decode cX3_obey 51 = .ok (.iload 4, 2) := by decide +kernel
theorem dX3_obey_53 : decode cX3_obey 53 = .ok (.iconst 3, 1) := by decide +kernel
theorem dX3_obey_54 : decode cX3_obey 54 = .ok (.if_icmp .lt 22, 3) := by decide +kernel
theorem dX3_obey_57 : decode cX3_obey 57 = .ok (.iload 4, 2) := by decide +kernel
theorem dX3_obey_59 : decode cX3_obey 59 = .ok (.bipush 7, 2) := by decide +kernel
theorem dX3_obey_61 : decode cX3_obey 61 = .ok (.if_icmp .gt 15, 3) := by decide +kernel
theorem dX3_obey_64 : decode cX3_obey 64 = .ok (.aload_n 0, 1) := by decide +kernel
theorem dX3_obey_65 : decode cX3_obey 65 = .ok (.iload 4, 2) := by decide +kernel
theorem dX3_obey_67 : decode cX3_obey 67 = .ok (.iload 5, 2) := by decide +kernel
theorem dX3_obey_69 : decode cX3_obey 69 = .ok (.aload_n 2, 1) := by decide +kernel
theorem dX3_obey_70 : decode cX3_obey 70 = .ok (.invokevirtual 225, 3) := by decide +kernel
theorem dX3_obey_73 : decode cX3_obey 73 = .ok (.goto 155, 3) := by decide +kernel
theorem dX3_obey_76 : decode cX3_obey 76 = .ok (.iload 4, 2) := by decide +kernel
theorem dX3_obey_78 : decode cX3_obey 78 = .ok (.bipush 10, 2) := by decide +kernel
theorem dX3_obey_80 : decode cX3_obey 80 = .ok (.if_icmp .lt 20, 3) := by decide +kernel
theorem dX3_obey_83 : decode cX3_obey 83 = .ok (.iload 4, 2) := by decide +kernel
theorem dX3_obey_85 : decode cX3_obey 85 = .ok (.bipush 20, 2) := by decide +kernel
theorem dX3_obey_87 : decode cX3_obey 87 = .ok (.if_icmp .gt 13, 3) := by decide +kernel
theorem dX3_obey_90 : decode cX3_obey 90 = .ok (.aload_n 0, 1) := by decide +kernel
theorem dX3_obey_91 : decode cX3_obey 91 = .ok (.iload 4, 2) := by decide +kernel
theorem dX3_obey_93 : decode cX3_obey 93 = .ok (.aload_n 2, 1) := by decide +kernel
theorem dX3_obey_94 : decode cX3_obey 94 = .ok (.invokevirtual 229, 3) := by decide +kernel
theorem dX3_obey_97 : decode cX3_obey 97 = .ok (.goto 131, 3) := by decide +kernel
theorem dX3_obey_100 : decode cX3_obey 100 = .ok (.iload 4, 2) := by decide +kernel
theorem dX3_obey_102 : decode cX3_obey 102 = .ok (.bipush 24, 2) := by decide +kernel
theorem dX3_obey_104 : decode cX3_obey 104 = .ok (.if_icmp .lt 10, 3) := by decide +kernel
theorem dX3_obey_107 : decode cX3_obey 107 = .ok (.iload 4, 2) := by decide +kernel
theorem dX3_obey_109 : decode cX3_obey 109 = .ok (.bipush 26, 2) := by decide +kernel
theorem dX3_obey_111 : decode cX3_obey 111 = .ok (.if_icmp .le 10, 3) := by decide +kernel
theorem dX3_obey_114 : decode cX3_obey 114 = .ok (.iload 4, 2) := by decide +kernel
theorem dX3_obey_116 : decode cX3_obey 116 = .ok (.bipush 31, 2) := by decide +kernel
theorem dX3_obey_118 : decode cX3_obey 118 = .ok (.if_icmp .ne 15, 3) := by decide +kernel
theorem dX3_obey_121 : decode cX3_obey 121 = .ok (.aload_n 0, 1) := by decide +kernel
theorem dX3_obey_122 : decode cX3_obey 122 = .ok (.iload 4, 2) := by decide +kernel
theorem dX3_obey_124 : decode cX3_obey 124 = .ok (.iload 5, 2) := by decide +kernel
theorem dX3_obey_126 : decode cX3_obey 126 = .ok (.aload_n 2, 1) := by decide +kernel
theorem dX3_obey_127 : decode cX3_obey 127 = .ok (.invokevirtual 233, 3) := by decide +kernel
theorem dX3_obey_130 : decode cX3_obey 130 = .ok (.goto 98, 3) := by decide +kernel
theorem dX3_obey_133 : decode cX3_obey 133 = .ok (.iload 4, 2) := by decide +kernel
theorem dX3_obey_135 : decode cX3_obey 135 = .ok (.bipush 8, 2) := by decide +kernel
theorem dX3_obey_137 : decode cX3_obey 137 = .ok (.if_icmp .eq 10, 3) := by decide +kernel
theorem dX3_obey_140 : decode cX3_obey 140 = .ok (.iload 4, 2) := by decide +kernel
theorem dX3_obey_142 : decode cX3_obey 142 = .ok (.bipush 34, 2) := by decide +kernel
theorem dX3_obey_144 : decode cX3_obey 144 = .ok (.if_icmp .ne 26, 3) := by decide +kernel
theorem dX3_obey_147 : decode cX3_obey 147 = .ok (.aload_n 0, 1) := by decide +kernel
theorem dX3_obey_148 : decode cX3_obey 148 = .ok (.iload 4, 2) := by decide +kernel
theorem dX3_obey_150 : decode cX3_obey 150 = .ok (.bipush 34, 2) := by decide +kernel
theorem dX3_obey_152 : decode cX3_obey 152 = .ok (.if_icmp .ne 7, 3) := by decide +kernel
theorem dX3_obey_155 : decode cX3_obey 155 = .ok (.iconst 0, 1) := by decide +kernel
theorem dX3_obey_156 : decode cX3_obey 156 = .ok (.goto 7, 3) := by decide +kernel
theorem dX3_obey_159 : decode cX3_obey 159 = .ok (.aload_n 0, 1) := by decide +kernel
theorem dX3_obey_160 : decode cX3_obey 160 = .ok (.invokevirtual 236, 3) := by decide +kernel
theorem dX3_obey_163 : decode cX3_obey 163 = .ok (.aload_n 2, 1) := by decide +kernel
theorem dX3_obey_164 : decode cX3_obey 164 = .ok (.invokevirtual 239, 3) := by decide +kernel
theorem dX3_obey_167 : decode cX3_obey 167 = .ok (.goto 61, 3) := by decide +kernel
theorem dX3_obey_170 : decode cX3_obey 170 = .ok (.iload 4, 2) := by decide +kernel
theorem dX3_obey_172 : decode cX3_obey 172 = .ok (.bipush 23, 2) := by decide +kernel
theorem dX3_obey_174 : decode cX3_obey 174 = .ok (.if_icmp .ne 11, 3) := by decide +kernel
theorem dX3_obey_177 : decode cX3_obey 177 = .ok (.aload_n 0, 1) := by decide +kernel
theorem dX3_obey_178 : decode cX3_obey 178 = .ok (.aload_n 2, 1) := by decide +kernel
theorem dX3_obey_179 : decode cX3_obey 179 = .ok (.invokevirtual 242, 3) := by decide +kernel
theorem dX3_obey_182 : decode cX3_obey 182 = .ok (.goto 46, 3) := by decide +kernel
theorem dX3_obey_185 : decode cX3_obey 185 = .ok (.iload 4, 2) := by decide +kernel
theorem dX3_obey_187 : decode cX3_obey 187 = .ok (.bipush 29, 2) := by decide +kernel
theorem dX3_obey_189 : decode cX3_obey 189 = .ok (.if_icmp .ne 15, 3) := by decide +kernel
theorem dX3_obey_192 : decode cX3_obey 192 = .ok (.aload_n 0, 1) := by decide +kernel
theorem dX3_obey_193 : decode cX3_obey 193 = .ok (.aload_n 0, 1) := by decide +kernel
theorem dX3_obey_194 : decode cX3_obey 194 = .ok (.invokevirtual 236, 3) := by decide +kernel
theorem dX3_obey_197 : decode cX3_obey 197 = .ok (.iconst 1, 1) := by decide +kernel
theorem dX3_obey_198 : decode cX3_obey 198 = .ok (.invokevirtual 246, 3) := by decide +kernel
theorem dX3_obey_201 : decode cX3_obey 201 = .ok (.goto 27, 3) := by decide +kernel
theorem dX3_obey_204 : decode cX3_obey 204 = .ok (.iload 4, 2) := by decide +kernel
theorem dX3_obey_206 : decode cX3_obey 206 = .ok (.bipush 28, 2) := by decide +kernel
theorem dX3_obey_208 : decode cX3_obey 208 = .ok (.if_icmp .ne 11, 3) := by decide +kernel
theorem dX3_obey_211 : decode cX3_obey 211 = .ok (.aload_n 0, 1) := by decide +kernel
theorem dX3_obey_212 : decode cX3_obey 212 = .ok (.aload_n 2, 1) := by decide +kernel
theorem dX3_obey_213 : decode cX3_obey 213 = .ok (.invokevirtual 249, 3) := by decide +kernel
theorem dX3_obey_216 : decode cX3_obey 216 = .ok (.goto 12, 3) := by decide +kernel
theorem dX3_obey_219 : decode cX3_obey 219 = .ok (.aload_n 0, 1) := by decide +kernel
theorem dX3_obey_220 : decode cX3_obey 220 = .ok (.iload 4, 2) := by decide +kernel
theorem dX3_obey_222 : decode cX3_obey 222 = .ok (.iload 5, 2) := by decide +kernel
theorem dX3_obey_224 : decode cX3_obey 224 = .ok (.aload_n 2, 1) := by decide +kernel
theorem dX3_obey_225 : decode cX3_obey 225 = .ok (.invokevirtual 252, 3) := by decide +kernel
theorem dX3_obey_228 : decode cX3_obey 228 = .ok (.return_, 1) := by decide +kernel
theorem dX3_push_0 : decode cX3_push 0 = .ok (.aload_n 0, 1) := by decide +kernel
theorem dX3_push_1 : decode cX3_push 1 = .ok (.getfield 206, 3) := by decide +kernel
theorem dX3_push_4 : decode cX3_push 4 = .ok (.ifCond .lt 35, 3) := by decide +kernel
theorem dX3_push_7 : decode cX3_push 7 = .ok (.aload_n 0, 1) := by decide +kernel
theorem dX3_push_8 : decode cX3_push 8 = .ok (.getfield 206, 3) := by decide +kernel
theorem dX3_push_11 : decode cX3_push 11 = .ok (.aload_n 0, 1) := by decide +kernel
theorem dX3_push_12 : decode cX3_push 12 = .ok (.getfield 37, 3) := by decide +kernel
theorem dX3_push_15 : decode cX3_push 15 = .ok (.arraylength, 1) := by decide +kernel
theorem dX3_push_16 : decode cX3_push 16 = .ok (.if_icmp .ge 23, 3) := by decide +kernel
theorem dX3_push_19 : decode cX3_push 19 = .ok (.aload_n 0, 1) := by decide +kernel
theorem dX3_push_20 : decode cX3_push 20 = .ok (.getfield 37, 3) := by decide +kernel
theorem dX3_push_23 : decode cX3_push 23 = .ok (.aload_n 0, 1) := by decide +kernel
theorem dX3_push_24 : decode cX3_push 24 = .ok (.getfield 206, 3) := by decide +kernel
theorem dX3_push_27 : decode cX3_push 27 = .ok (.iload_n 1, 1) := by decide +kernel
theorem dX3_push_28 : decode cX3_push 28 = .ok (.iastore, 1) := by decide +kernel
theorem dX3_push_29 : decode cX3_push 29 = .ok (.aload_n 0, 1) := by decide +kernel
theorem dX3_push_30 : decode cX3_push 30 = .ok (.dup, 1) := by decide +kernel
theorem dX3_push_31 : decode cX3_push 31 = .ok (.getfield 206, 3) := by decide +kernel
theorem dX3_push_34 : decode cX3_push 34 = .ok (.iconst 1, 1) := by decide +kernel
theorem dX3_push_35 : decode cX3_push 35 = .ok (.iadd, 1) := by decide +kernel
theorem dX3_push_36 : decode cX3_push 36 = .ok (.putfield 206, 3) := by decide +kernel
theorem dX3_push_39 : decode cX3_push 39 = .ok (.return_, 1) := by decide +kernel
theorem dX3_pop_0 : decode cX3_pop 0 = .ok (.aload_n 0, 1) := by decide +kernel
theorem dX3_pop_1 : decode cX3_pop 1 = .ok (.getfield 206, 3) := by decide +kernel
theorem dX3_pop_4 : decode cX3_pop 4 = .ok (.ifCond .le 15, 3) := by decide +kernel
theorem dX3_pop_7 : decode cX3_pop 7 = .ok (.aload_n 0, 1) := by decide +kernel
theorem dX3_pop_8 : decode cX3_pop 8 = .ok (.getfield 206, 3) := by decide +kernel
theorem dX3_pop_11 : decode cX3_pop 11 = .ok (.aload_n 0, 1) := by decide +kernel
theorem dX3_pop_12 : decode cX3_pop 12 = .ok (.getfield 37, 3) := by decide +kernel
theorem dX3_pop_15 : decode cX3_pop 15 = .ok (.arraylength, 1) := by decide +kernel
theorem dX3_pop_16 : decode cX3_pop 16 = .ok (.if_icmp .le 5, 3) := by decide +kernel
theorem dX3_pop_19 : decode cX3_pop 19 = .ok (.iconst 0, 1) := by decide +kernel
theorem dX3_pop_20 : decode cX3_pop 20 = .ok (.ireturn, 1) := by decide +kernel
theorem dX3_pop_21 : decode cX3_pop 21 = .ok (.aload_n 0, 1) := by decide +kernel
theorem dX3_pop_22 : decode cX3_pop 22 = .ok (.dup, 1) := by decide +kernel
theorem dX3_pop_23 : decode cX3_pop 23 = .ok (.getfield 206, 3) := by decide +kernel
theorem dX3_pop_26 : decode cX3_pop 26 = .ok (.iconst 1, 1) := by decide +kernel
theorem dX3_pop_27 : decode cX3_pop 27 = .ok (.isub, 1) := by decide +kernel
theorem dX3_pop_28 : decode cX3_pop 28 = .ok (.putfield 206, 3) := by decide +kernel
theorem dX3_pop_31 : decode cX3_pop 31 = .ok (.aload_n 0, 1) := by decide +kernel
theorem dX3_pop_32 : decode cX3_pop 32 = .ok (.getfield 37, 3) := by decide +kernel
theorem dX3_pop_35 : decode cX3_pop 35 = .ok (.aload_n 0, 1) := by decide +kernel
theorem dX3_pop_36 : decode cX3_pop 36 = .ok (.getfield 206, 3) := by decide +kernel
theorem dX3_pop_39 : decode cX3_pop 39 = .ok (.iaload, 1) := by decide +kernel
theorem dX3_pop_40 : decode cX3_pop 40 = .ok (.ireturn, 1) := by decide +kernel
theorem dX3_doPlain_0 : decode cX3_doPlain 0 = .ok (.aload_n 3, 1) := by decide +kernel
theorem dX3_doPlain_1 : decode cX3_doPlain 1 = .ok (.iconst 1, 1) := by decide +kernel
theorem dX3_doPlain_2 : decode cX3_doPlain 2 = .ok (.iaload, 1) := by decide +kernel
theorem dX3_doPlain_3 : decode cX3_doPlain 3 = .ok (.iload_n 2, 1) := by decide +kernel
theorem dX3_doPlain_4 : decode cX3_doPlain 4 = .ok (.iadd, 1) := by decide +kernel
theorem dX3_doPlain_5 : decode cX3_doPlain 5 = .ok (.istore 4, 2) := by decide +kernel
theorem dX3_doPlain_7 : decode cX3_doPlain 7 = .ok (.aload_n 3, 1) := by decide +kernel
theorem dX3_doPlain_8 : decode cX3_doPlain 8 = .ok (.iconst 0, 1) := by decide +kernel
theorem dX3_doPlain_9 : decode cX3_doPlain 9 = .ok (.dup2, 1) := by decide +kernel
theorem dX3_doPlain_10 : decode cX3_doPlain 10 = .ok (.iaload, 1) := by decide +kernel
theorem dX3_doPlain_11 : decode cX3_doPlain 11 = .ok (.iconst 1, 1) := by decide +kernel
theorem dX3_doPlain_12 : decode cX3_doPlain 12 = .ok (.iadd, 1) := by decide +kernel
theorem dX3_doPlain_13 : decode cX3_doPlain 13 = .ok (.iastore, 1) := by decide +kernel
theorem dX3_doPlain_14 : decode cX3_doPlain 14 = .ok (.iload_n 1, 1) := by decide +kernel
theorem dX3_doPlain_15 : decode cX3_doPlain 15 = .ok (.lookupswitch 247 #[(0, 73), (1, 81), (2, 114), (9, 147), (21, 168), (22, 187), (32, 199), (33, 155)], 73) := by decide +kernel
theorem dX3_doPlain_88 : decode cX3_doPlain 88 = .ok (.aload_n 0, 1) := by decide +kernel
theorem dX3_doPlain_89 : decode cX3_doPlain 89 = .ok (.iload_n 2, 1) := by decide +kernel
theorem dX3_doPlain_90 : decode cX3_doPlain 90 = .ok (.invokevirtual 255, 3) := by decide +kernel
theorem dX3_doPlain_93 : decode cX3_doPlain 93 = .ok (.goto 169, 3) := by decide +kernel
theorem dX3_doPlain_96 : decode cX3_doPlain 96 = .ok (.aload_n 0, 1) := by decide +kernel
theorem dX3_doPlain_97 : decode cX3_doPlain 97 = .ok (.iload 4, 2) := by decide +kernel
theorem dX3_doPlain_99 : decode cX3_doPlain 99 = .ok (.ifCond .lt 23, 3) := by decide +kernel
theorem dX3_doPlain_102 : decode cX3_doPlain 102 = .ok (.iload 4, 2) := by decide +kernel
theorem dX3_doPlain_104 : decode cX3_doPlain 104 = .ok (.aload_n 0, 1) := by decide +kernel
theorem dX3_doPlain_105 : decode cX3_doPlain 105 = .ok (.getfield 37, 3) := by decide +kernel
theorem dX3_doPlain_108 : decode cX3_doPlain 108 = .ok (.arraylength, 1) := by decide +kernel
theorem dX3_doPlain_109 : decode cX3_doPlain 109 = .ok (.if_icmp .ge 13, 3) := by decide +kernel
theorem dX3_doPlain_112 : decode cX3_doPlain 112 = .ok (.aload_n 0, 1) := by decide +kernel
theorem dX3_doPlain_113 : decode cX3_doPlain 113 = .ok (.getfield 37, 3) := by decide +kernel
theorem dX3_doPlain_116 : decode cX3_doPlain 116 = .ok (.iload 4, 2) := by decide +kernel
theorem dX3_doPlain_118 : decode cX3_doPlain 118 = .ok (.iaload, 1) := by decide +kernel
theorem dX3_doPlain_119 : decode cX3_doPlain 119 = .ok (.goto 4, 3) := by decide +kernel
theorem dX3_doPlain_122 : decode cX3_doPlain 122 = .ok (.iconst 0, 1) := by decide +kernel
theorem dX3_doPlain_123 : decode cX3_doPlain 123 = .ok (.invokevirtual 255, 3) := by decide +kernel
theorem dX3_doPlain_126 : decode cX3_doPlain 126 = .ok (.goto 136, 3) := by decide +kernel
theorem dX3_doPlain_129 : decode cX3_doPlain 129 = .ok (.aload_n 0, 1) := by decide +kernel
theorem dX3_doPlain_130 : decode cX3_doPlain 130 = .ok (.invokevirtual 236, 3) := by decide +kernel
theorem dX3_doPlain_133 : decode cX3_doPlain 133 = .ok (.istore 5, 2) := by decide +kernel
theorem dX3_doPlain_135 : decode cX3_doPlain 135 = .ok (.iload 4, 2) := by decide +kernel
theorem dX3_doPlain_137 : decode cX3_doPlain 137 = .ok (.ifCond .lt 125, 3) := by decide +kernel
theorem dX3_doPlain_140 : decode cX3_doPlain 140 = .ok (.iload 4, 2) := by decide +kernel
theorem dX3_doPlain_142 : decode cX3_doPlain 142 = .ok (.aload_n 0, 1) := by decide +kernel
theorem dX3_doPlain_143 : decode cX3_doPlain 143 = .ok (.getfield 37, 3) := by decide +kernel
theorem dX3_doPlain_146 : decode cX3_doPlain 146 = .ok (.arraylength, 1) := by decide +kernel
theorem dX3_doPlain_147 : decode cX3_doPlain 147 = .ok (.if_icmp .ge 115, 3) := by decide +kernel
theorem dX3_doPlain_150 : decode cX3_doPlain 150 = .ok (.aload_n 0, 1) := by decide +kernel
theorem dX3_doPlain_151 : decode cX3_doPlain 151 = .ok (.getfield 37, 3) := by decide +kernel
theorem dX3_doPlain_154 : decode cX3_doPlain 154 = .ok (.iload 4, 2) := by decide +kernel
theorem dX3_doPlain_156 : decode cX3_doPlain 156 = .ok (.iload 5, 2) := by decide +kernel
theorem dX3_doPlain_158 : decode cX3_doPlain 158 = .ok (.iastore, 1) := by decide +kernel
theorem dX3_doPlain_159 : decode cX3_doPlain 159 = .ok (.goto 103, 3) := by decide +kernel
theorem dX3_doPlain_162 : decode cX3_doPlain 162 = .ok (.aload_n 0, 1) := by decide +kernel
theorem dX3_doPlain_163 : decode cX3_doPlain 163 = .ok (.invokevirtual 236, 3) := by decide +kernel
theorem dX3_doPlain_166 : decode cX3_doPlain 166 = .ok (.pop, 1) := by decide +kernel
theorem dX3_doPlain_167 : decode cX3_doPlain 167 = .ok (.goto 95, 3) := by decide +kernel
theorem dX3_doPlain_170 : decode cX3_doPlain 170 = .ok (.aload_n 0, 1) := by decide +kernel
theorem dX3_doPlain_171 : decode cX3_doPlain 171 = .ok (.invokevirtual 236, 3) := by decide +kernel
theorem dX3_doPlain_174 : decode cX3_doPlain 174 = .ok (.pop, 1) := by decide +kernel
theorem dX3_doPlain_175 : decode cX3_doPlain 175 = .ok (.aload_n 0, 1) := by decide +kernel
theorem dX3_doPlain_176 : decode cX3_doPlain 176 = .ok (.invokevirtual 236, 3) := by decide +kernel
theorem dX3_doPlain_179 : decode cX3_doPlain 179 = .ok (.pop, 1) := by decide +kernel
theorem dX3_doPlain_180 : decode cX3_doPlain 180 = .ok (.goto 82, 3) := by decide +kernel
theorem dX3_doPlain_183 : decode cX3_doPlain 183 = .ok (.aload_n 0, 1) := by decide +kernel
theorem dX3_doPlain_184 : decode cX3_doPlain 184 = .ok (.aload_n 0, 1) := by decide +kernel
theorem dX3_doPlain_185 : decode cX3_doPlain 185 = .ok (.invokevirtual 236, 3) := by decide +kernel
theorem dX3_doPlain_188 : decode cX3_doPlain 188 = .ok (.ifCond .ne 7, 3) := by decide +kernel
theorem dX3_doPlain_191 : decode cX3_doPlain 191 = .ok (.iconst 1, 1) := by decide +kernel
theorem dX3_doPlain_192 : decode cX3_doPlain 192 = .ok (.goto 4, 3) := by decide +kernel
theorem dX3_doPlain_195 : decode cX3_doPlain 195 = .ok (.iconst 0, 1) := by decide +kernel
theorem dX3_doPlain_196 : decode cX3_doPlain 196 = .ok (.invokevirtual 255, 3) := by decide +kernel
theorem dX3_doPlain_199 : decode cX3_doPlain 199 = .ok (.goto 63, 3) := by decide +kernel
theorem dX3_doPlain_202 : decode cX3_doPlain 202 = .ok (.aload_n 0, 1) := by decide +kernel
theorem dX3_doPlain_203 : decode cX3_doPlain 203 = .ok (.aload_n 0, 1) := by decide +kernel
theorem dX3_doPlain_204 : decode cX3_doPlain 204 = .ok (.invokevirtual 236, 3) := by decide +kernel
theorem dX3_doPlain_207 : decode cX3_doPlain 207 = .ok (.ineg, 1) := by decide +kernel
theorem dX3_doPlain_208 : decode cX3_doPlain 208 = .ok (.invokevirtual 255, 3) := by decide +kernel
theorem dX3_doPlain_211 : decode cX3_doPlain 211 = .ok (.goto 51, 3) := by decide +kernel
theorem dX3_doPlain_214 : decode cX3_doPlain 214 = .ok (.aload_n 0, 1) := by decide +kernel
theorem dX3_doPlain_215 : decode cX3_doPlain 215 = .ok (.getfield 33, 3) := by decide +kernel
theorem dX3_doPlain_218 : decode cX3_doPlain 218 = .ok (.aload_n 3, 1) := by decide +kernel
theorem dX3_doPlain_219 : decode cX3_doPlain 219 = .ok (.iconst 2, 1) := by decide +kernel
theorem dX3_doPlain_220 : decode cX3_doPlain 220 = .ok (.iaload, 1) := by decide +kernel
theorem dX3_doPlain_221 : decode cX3_doPlain 221 = .ok (.aaload, 1) := by decide +kernel
theorem dX3_doPlain_222 : decode cX3_doPlain 222 = .ok (.getfield 79, 3) := by decide +kernel
theorem dX3_doPlain_225 : decode cX3_doPlain 225 = .ok (.iload_n 2, 1) := by decide +kernel
theorem dX3_doPlain_226 : decode cX3_doPlain 226 = .ok (.invokestatic 259, 3) := by decide +kernel
theorem dX3_doPlain_229 : decode cX3_doPlain 229 = .ok (.astore 6, 2) := by decide +kernel
theorem dX3_doPlain_231 : decode cX3_doPlain 231 = .ok (.aload_n 0, 1) := by decide +kernel
theorem dX3_doPlain_232 : decode cX3_doPlain 232 = .ok (.dup, 1) := by decide +kernel
theorem dX3_doPlain_233 : decode cX3_doPlain 233 = .ok (.getfield 206, 3) := by decide +kernel
theorem dX3_doPlain_236 : decode cX3_doPlain 236 = .ok (.aload 6, 2) := by decide +kernel
theorem dX3_doPlain_238 : decode cX3_doPlain 238 = .ok (.ifnonnull 7, 3) := by decide +kernel
theorem dX3_doPlain_241 : decode cX3_doPlain 241 = .ok (.iconst 0, 1) := by decide +kernel
theorem dX3_doPlain_242 : decode cX3_doPlain 242 = .ok (.goto 8, 3) := by decide +kernel
theorem dX3_doPlain_245 : decode cX3_doPlain 245 = .ok (.aload 6, 2) := by decide +kernel
theorem dX3_doPlain_247 : decode cX3_doPlain 247 = .ok (.getfield 101, 3) := by decide +kernel
theorem dX3_doPlain_250 : decode cX3_doPlain 250 = .ok (.isub, 1) := by decide +kernel
theorem dX3_doPlain_251 : decode cX3_doPlain 251 = .ok (.putfield 206, 3) := by decide +kernel
theorem dX3_doPlain_254 : decode cX3_doPlain 254 = .ok (.aload_n 0, 1) := by decide +kernel
theorem dX3_doPlain_255 : decode cX3_doPlain 255 = .ok (.iconst 0, 1) := by decide +kernel
theorem dX3_doPlain_256 : decode cX3_doPlain 256 = .ok (.invokevirtual 255, 3) := by decide +kernel
theorem dX3_doPlain_259 : decode cX3_doPlain 259 = .ok (.goto 3, 3) := by decide +kernel
theorem dX3_doPlain_262 : decode cX3_doPlain 262 = .ok (.return_, 1) := by decide +kernel
theorem dX3_checkValue_0 : decode cX3_checkValue 0 = .ok (.aload_n 0, 1) := by decide +kernel
theorem dX3_checkValue_1 : decode cX3_checkValue 1 = .ok (.invokevirtual 236, 3) := by decide +kernel
theorem dX3_checkValue_4 : decode cX3_checkValue 4 = .ok (.ifCond .ne 12, 3) := by decide +kernel
theorem dX3_checkValue_7 : decode cX3_checkValue 7 = .ok (.aload_n 0, 1) := by decide +kernel
theorem dX3_checkValue_8 : decode cX3_checkValue 8 = .ok (.iconst 5, 1) := by decide +kernel
theorem dX3_checkValue_9 : decode cX3_checkValue 9 = .ok (.iconst 1, 1) := by decide +kernel
theorem dX3_checkValue_10 : decode cX3_checkValue 10 = .ok (.invokevirtual 246, 3) := by decide +kernel
theorem dX3_checkValue_13 : decode cX3_checkValue 13 = .ok (.goto 10, 3) := by decide +kernel
theorem dX3_checkValue_16 : decode cX3_checkValue 16 = .ok (.aload_n 1, 1) := by decide +kernel
theorem dX3_checkValue_17 : decode cX3_checkValue 17 = .ok (.iconst 0, 1) := by decide +kernel
theorem dX3_checkValue_18 : decode cX3_checkValue 18 = .ok (.dup2, 1) := by decide +kernel
theorem dX3_checkValue_19 : decode cX3_checkValue 19 = .ok (.iaload, 1) := by decide +kernel
theorem dX3_checkValue_20 : decode cX3_checkValue 20 = .ok (.iconst 1, 1) := by decide +kernel
theorem dX3_checkValue_21 : decode cX3_checkValue 21 = .ok (.iadd, 1) := by decide +kernel
theorem dX3_checkValue_22 : decode cX3_checkValue 22 = .ok (.iastore, 1) := by decide +kernel
theorem dX3_checkValue_23 : decode cX3_checkValue 23 = .ok (.return_, 1) := by decide +kernel
theorem dX3_jump_0 : decode cX3_jump 0 = .ok (.iload_n 1, 1) := by decide +kernel
theorem dX3_jump_1 : decode cX3_jump 1 = .ok (.bipush 25, 2) := by decide +kernel
theorem dX3_jump_3 : decode cX3_jump 3 = .ok (.if_icmp .ne 7, 3) := by decide +kernel
theorem dX3_jump_6 : decode cX3_jump 6 = .ok (.iconst 1, 1) := by decide +kernel
theorem dX3_jump_7 : decode cX3_jump 7 = .ok (.goto 4, 3) := by decide +kernel
theorem dX3_jump_10 : decode cX3_jump 10 = .ok (.iconst 0, 1) := by decide +kernel
theorem dX3_jump_11 : decode cX3_jump 11 = .ok (.istore 4, 2) := by decide +kernel
theorem dX3_jump_13 : decode cX3_jump 13 = .ok (.iload_n 1, 1) := by decide +kernel
theorem dX3_jump_14 : decode cX3_jump 14 = .ok (.bipush 24, 2) := by decide +kernel
theorem dX3_jump_16 : decode cX3_jump 16 = .ok (.if_icmp .ne 20, 3) := by decide +kernel
theorem dX3_jump_19 : decode cX3_jump 19 = .ok (.aload_n 0, 1) := by decide +kernel
theorem dX3_jump_20 : decode cX3_jump 20 = .ok (.invokevirtual 236, 3) := by decide +kernel
theorem dX3_jump_23 : decode cX3_jump 23 = .ok (.ifCond .ne 7, 3) := by decide +kernel
theorem dX3_jump_26 : decode cX3_jump 26 = .ok (.iconst 1, 1) := by decide +kernel
theorem dX3_jump_27 : decode cX3_jump 27 = .ok (.goto 4, 3) := by decide +kernel
theorem dX3_jump_30 : decode cX3_jump 30 = .ok (.iconst 0, 1) := by decide +kernel
theorem dX3_jump_31 : decode cX3_jump 31 = .ok (.istore 4, 2) := by decide +kernel
theorem dX3_jump_33 : decode cX3_jump 33 = .ok (.goto 23, 3) := by decide +kernel
theorem dX3_jump_36 : decode cX3_jump 36 = .ok (.iload_n 1, 1) := by decide +kernel
theorem dX3_jump_37 : decode cX3_jump 37 = .ok (.bipush 31, 2) := by decide +kernel
theorem dX3_jump_39 : decode cX3_jump 39 = .ok (.if_icmp .ne 17, 3) := by decide +kernel
theorem dX3_jump_42 : decode cX3_jump 42 = .ok (.aload_n 0, 1) := by decide +kernel
theorem dX3_jump_43 : decode cX3_jump 43 = .ok (.invokevirtual 236, 3) := by decide +kernel
theorem dX3_jump_46 : decode cX3_jump 46 = .ok (.ifCond .eq 7, 3) := by decide +kernel
theorem dX3_jump_49 : decode cX3_jump 49 = .ok (.iconst 1, 1) := by decide +kernel
theorem dX3_jump_50 : decode cX3_jump 50 = .ok (.goto 4, 3) := by decide +kernel
theorem dX3_jump_53 : decode cX3_jump 53 = .ok (.iconst 0, 1) := by decide +kernel
theorem dX3_jump_54 : decode cX3_jump 54 = .ok (.istore 4, 2) := by decide +kernel
theorem dX3_jump_56 : decode cX3_jump 56 = .ok (.aload_n 3, 1) := by decide +kernel
theorem dX3_jump_57 : decode cX3_jump 57 = .ok (.iconst 0, 1) := by decide +kernel
theorem dX3_jump_58 : decode cX3_jump 58 = .ok (.iload 4, 2) := by decide +kernel
theorem dX3_jump_60 : decode cX3_jump 60 = .ok (.ifCond .eq 7, 3) := by decide +kernel
theorem dX3_jump_63 : decode cX3_jump 63 = .ok (.iload_n 2, 1) := by decide +kernel
theorem dX3_jump_64 : decode cX3_jump 64 = .ok (.goto 8, 3) := by decide +kernel
theorem dX3_jump_67 : decode cX3_jump 67 = .ok (.aload_n 3, 1) := by decide +kernel
theorem dX3_jump_68 : decode cX3_jump 68 = .ok (.iconst 0, 1) := by decide +kernel
theorem dX3_jump_69 : decode cX3_jump 69 = .ok (.iaload, 1) := by decide +kernel
theorem dX3_jump_70 : decode cX3_jump 70 = .ok (.iconst 1, 1) := by decide +kernel
theorem dX3_jump_71 : decode cX3_jump 71 = .ok (.iadd, 1) := by decide +kernel
theorem dX3_jump_72 : decode cX3_jump 72 = .ok (.iastore, 1) := by decide +kernel
theorem dX3_jump_73 : decode cX3_jump 73 = .ok (.return_, 1) := by decide +kernel
theorem dX3_combine_0 : decode cX3_combine 0 = .ok (.aload_n 0, 1) := by decide +kernel
theorem dX3_combine_1 : decode cX3_combine 1 = .ok (.invokevirtual 236, 3) := by decide +kernel
theorem dX3_combine_4 : decode cX3_combine 4 = .ok (.istore_n 3, 1) := by decide +kernel
theorem dX3_combine_5 : decode cX3_combine 5 = .ok (.aload_n 0, 1) := by decide +kernel
theorem dX3_combine_6 : decode cX3_combine 6 = .ok (.invokevirtual 236, 3) := by decide +kernel
theorem dX3_combine_9 : decode cX3_combine 9 = .ok (.istore 4, 2) := by decide +kernel
theorem dX3_combine_11 : decode cX3_combine 11 = .ok (.iload_n 3, 1) := by decide +kernel
theorem dX3_combine_12 : decode cX3_combine 12 = .ok (.ifCond .ne 22, 3) := by decide +kernel
theorem dX3_combine_15 : decode cX3_combine 15 = .ok (.iload_n 1, 1) := by decide +kernel
theorem dX3_combine_16 : decode cX3_combine 16 = .ok (.bipush 13, 2) := by decide +kernel
theorem dX3_combine_18 : decode cX3_combine 18 = .ok (.if_icmp .eq 9, 3) := by decide +kernel
theorem dX3_combine_21 : decode cX3_combine 21 = .ok (.iload_n 1, 1) := by decide +kernel
theorem dX3_combine_22 : decode cX3_combine 22 = .ok (.bipush 14, 2) := by decide +kernel
theorem dX3_combine_24 : decode cX3_combine 24 = .ok (.if_icmp .ne 10, 3) := by decide +kernel
theorem dX3_combine_27 : decode cX3_combine 27 = .ok (.aload_n 0, 1) := by decide +kernel
theorem dX3_combine_28 : decode cX3_combine 28 = .ok (.iconst 1, 1) := by decide +kernel
theorem dX3_combine_29 : decode cX3_combine 29 = .ok (.iconst 1, 1) := by decide +kernel
theorem dX3_combine_30 : decode cX3_combine 30 = .ok (.invokevirtual 246, 3) := by decide +kernel
theorem dX3_combine_33 : decode cX3_combine 33 = .ok (.return_, 1) := by decide +kernel
theorem dX3_combine_34 : decode cX3_combine 34 = .ok (.aload_n 0, 1) := by decide +kernel
theorem dX3_combine_35 : decode cX3_combine 35 = .ok (.iload_n 1, 1) := by decide +kernel
theorem dX3_combine_36 : decode cX3_combine 36 = .ok (.iload 4, 2) := by decide +kernel
theorem dX3_combine_38 : decode cX3_combine 38 = .ok (.iload_n 3, 1) := by decide +kernel
theorem dX3_combine_39 : decode cX3_combine 39 = .ok (.invokestatic 263, 3) := by decide +kernel
theorem dX3_combine_42 : decode cX3_combine 42 = .ok (.invokevirtual 255, 3) := by decide +kernel
theorem dX3_combine_45 : decode cX3_combine 45 = .ok (.aload_n 2, 1) := by decide +kernel
theorem dX3_combine_46 : decode cX3_combine 46 = .ok (.iconst 0, 1) := by decide +kernel
theorem dX3_combine_47 : decode cX3_combine 47 = .ok (.dup2, 1) := by decide +kernel
theorem dX3_combine_48 : decode cX3_combine 48 = .ok (.iaload, 1) := by decide +kernel
theorem dX3_combine_49 : decode cX3_combine 49 = .ok (.iconst 1, 1) := by decide +kernel
theorem dX3_combine_50 : decode cX3_combine 50 = .ok (.iadd, 1) := by decide +kernel
theorem dX3_combine_51 : decode cX3_combine 51 = .ok (.iastore, 1) := by decide +kernel
theorem dX3_combine_52 : decode cX3_combine 52 = .ok (.return_, 1) := by decide +kernel
theorem dX3_combined_0 : decode cX3_combined 0 = .ok (.iload_n 0, 1) := by decide +kernel
theorem dX3_combined_1 : decode cX3_combined 1 = .ok (.tableswitch 149 10 19 #[55, 59, 63, 67, 79, 91, 102, 113, 124, 135], 55) := by decide +kernel
theorem dX3_combined_56 : decode cX3_combined 56 = .ok (.iload_n 1, 1) := by decide +kernel
theorem dX3_combined_57 : decode cX3_combined 57 = .ok (.iload_n 2, 1) := by decide +kernel
theorem dX3_combined_58 : decode cX3_combined 58 = .ok (.iadd, 1) := by decide +kernel
theorem dX3_combined_59 : decode cX3_combined 59 = .ok (.ireturn, 1) := by decide +kernel
theorem dX3_combined_60 : decode cX3_combined 60 = .ok (.iload_n 1, 1) := by decide +kernel
theorem dX3_combined_61 : decode cX3_combined 61 = .ok (.iload_n 2, 1) := by decide +kernel
theorem dX3_combined_62 : decode cX3_combined 62 = .ok (.isub, 1) := by decide +kernel
theorem dX3_combined_63 : decode cX3_combined 63 = .ok (.ireturn, 1) := by decide +kernel
theorem dX3_combined_64 : decode cX3_combined 64 = .ok (.iload_n 1, 1) := by decide +kernel
theorem dX3_combined_65 : decode cX3_combined 65 = .ok (.iload_n 2, 1) := by decide +kernel
theorem dX3_combined_66 : decode cX3_combined 66 = .ok (.imul, 1) := by decide +kernel
theorem dX3_combined_67 : decode cX3_combined 67 = .ok (.ireturn, 1) := by decide +kernel
theorem dX3_combined_68 : decode cX3_combined 68 = .ok (.iload_n 2, 1) := by decide +kernel
theorem dX3_combined_69 : decode cX3_combined 69 = .ok (.ifCond .ne 7, 3) := by decide +kernel
theorem dX3_combined_72 : decode cX3_combined 72 = .ok (.iconst 0, 1) := by decide +kernel
theorem dX3_combined_73 : decode cX3_combined 73 = .ok (.goto 6, 3) := by decide +kernel
theorem dX3_combined_76 : decode cX3_combined 76 = .ok (.iload_n 1, 1) := by decide +kernel
theorem dX3_combined_77 : decode cX3_combined 77 = .ok (.iload_n 2, 1) := by decide +kernel
theorem dX3_combined_78 : decode cX3_combined 78 = .ok (.idiv, 1) := by decide +kernel
theorem dX3_combined_79 : decode cX3_combined 79 = .ok (.ireturn, 1) := by decide +kernel
theorem dX3_combined_80 : decode cX3_combined 80 = .ok (.iload_n 2, 1) := by decide +kernel
theorem dX3_combined_81 : decode cX3_combined 81 = .ok (.ifCond .ne 7, 3) := by decide +kernel
theorem dX3_combined_84 : decode cX3_combined 84 = .ok (.iconst 0, 1) := by decide +kernel
theorem dX3_combined_85 : decode cX3_combined 85 = .ok (.goto 6, 3) := by decide +kernel
theorem dX3_combined_88 : decode cX3_combined 88 = .ok (.iload_n 1, 1) := by decide +kernel
theorem dX3_combined_89 : decode cX3_combined 89 = .ok (.iload_n 2, 1) := by decide +kernel
theorem dX3_combined_90 : decode cX3_combined 90 = .ok (.irem, 1) := by decide +kernel
theorem dX3_combined_91 : decode cX3_combined 91 = .ok (.ireturn, 1) := by decide +kernel
theorem dX3_combined_92 : decode cX3_combined 92 = .ok (.iload_n 1, 1) := by decide +kernel
theorem dX3_combined_93 : decode cX3_combined 93 = .ok (.iload_n 2, 1) := by decide +kernel
theorem dX3_combined_94 : decode cX3_combined 94 = .ok (.if_icmp .ge 7, 3) := by decide +kernel
theorem dX3_combined_97 : decode cX3_combined 97 = .ok (.iconst 1, 1) := by decide +kernel
theorem dX3_combined_98 : decode cX3_combined 98 = .ok (.goto 4, 3) := by decide +kernel
theorem dX3_combined_101 : decode cX3_combined 101 = .ok (.iconst 0, 1) := by decide +kernel
theorem dX3_combined_102 : decode cX3_combined 102 = .ok (.ireturn, 1) := by decide +kernel
theorem dX3_combined_103 : decode cX3_combined 103 = .ok (.iload_n 1, 1) := by decide +kernel
theorem dX3_combined_104 : decode cX3_combined 104 = .ok (.iload_n 2, 1) := by decide +kernel
theorem dX3_combined_105 : decode cX3_combined 105 = .ok (.if_icmp .gt 7, 3) := by decide +kernel
theorem dX3_combined_108 : decode cX3_combined 108 = .ok (.iconst 1, 1) := by decide +kernel
theorem dX3_combined_109 : decode cX3_combined 109 = .ok (.goto 4, 3) := by decide +kernel
theorem dX3_combined_112 : decode cX3_combined 112 = .ok (.iconst 0, 1) := by decide +kernel
theorem dX3_combined_113 : decode cX3_combined 113 = .ok (.ireturn, 1) := by decide +kernel
theorem dX3_combined_114 : decode cX3_combined 114 = .ok (.iload_n 1, 1) := by decide +kernel
theorem dX3_combined_115 : decode cX3_combined 115 = .ok (.iload_n 2, 1) := by decide +kernel
theorem dX3_combined_116 : decode cX3_combined 116 = .ok (.if_icmp .ne 7, 3) := by decide +kernel
theorem dX3_combined_119 : decode cX3_combined 119 = .ok (.iconst 1, 1) := by decide +kernel
theorem dX3_combined_120 : decode cX3_combined 120 = .ok (.goto 4, 3) := by decide +kernel
theorem dX3_combined_123 : decode cX3_combined 123 = .ok (.iconst 0, 1) := by decide +kernel
theorem dX3_combined_124 : decode cX3_combined 124 = .ok (.ireturn, 1) := by decide +kernel
theorem dX3_combined_125 : decode cX3_combined 125 = .ok (.iload_n 1, 1) := by decide +kernel
theorem dX3_combined_126 : decode cX3_combined 126 = .ok (.iload_n 2, 1) := by decide +kernel
theorem dX3_combined_127 : decode cX3_combined 127 = .ok (.if_icmp .eq 7, 3) := by decide +kernel
theorem dX3_combined_130 : decode cX3_combined 130 = .ok (.iconst 1, 1) := by decide +kernel
theorem dX3_combined_131 : decode cX3_combined 131 = .ok (.goto 4, 3) := by decide +kernel
theorem dX3_combined_134 : decode cX3_combined 134 = .ok (.iconst 0, 1) := by decide +kernel
theorem dX3_combined_135 : decode cX3_combined 135 = .ok (.ireturn, 1) := by decide +kernel
theorem dX3_combined_136 : decode cX3_combined 136 = .ok (.iload_n 1, 1) := by decide +kernel
theorem dX3_combined_137 : decode cX3_combined 137 = .ok (.ifCond .eq 11, 3) := by decide +kernel
theorem dX3_combined_140 : decode cX3_combined 140 = .ok (.iload_n 2, 1) := by decide +kernel
theorem dX3_combined_141 : decode cX3_combined 141 = .ok (.ifCond .eq 7, 3) := by decide +kernel
theorem dX3_combined_144 : decode cX3_combined 144 = .ok (.iconst 1, 1) := by decide +kernel
theorem dX3_combined_145 : decode cX3_combined 145 = .ok (.goto 4, 3) := by decide +kernel
theorem dX3_combined_148 : decode cX3_combined 148 = .ok (.iconst 0, 1) := by decide +kernel
theorem dX3_combined_149 : decode cX3_combined 149 = .ok (.ireturn, 1) := by decide +kernel
theorem dX3_combined_150 : decode cX3_combined 150 = .ok (.iload_n 1, 1) := by decide +kernel
theorem dX3_combined_151 : decode cX3_combined 151 = .ok (.ifCond .ne 7, 3) := by decide +kernel
theorem dX3_combined_154 : decode cX3_combined 154 = .ok (.iload_n 2, 1) := by decide +kernel
theorem dX3_combined_155 : decode cX3_combined 155 = .ok (.ifCond .eq 7, 3) := by decide +kernel
theorem dX3_combined_158 : decode cX3_combined 158 = .ok (.iconst 1, 1) := by decide +kernel
theorem dX3_combined_159 : decode cX3_combined 159 = .ok (.goto 4, 3) := by decide +kernel
theorem dX3_combined_162 : decode cX3_combined 162 = .ok (.iconst 0, 1) := by decide +kernel
theorem dX3_combined_163 : decode cX3_combined 163 = .ok (.ireturn, 1) := by decide +kernel
theorem dX3_drawNumber_0 : decode cX3_drawNumber 0 = .ok (.aload_n 0, 1) := by decide +kernel
theorem dX3_drawNumber_1 : decode cX3_drawNumber 1 = .ok (.invokevirtual 236, 3) := by decide +kernel
theorem dX3_drawNumber_4 : decode cX3_drawNumber 4 = .ok (.istore_n 2, 1) := by decide +kernel
theorem dX3_drawNumber_5 : decode cX3_drawNumber 5 = .ok (.iload_n 2, 1) := by decide +kernel
theorem dX3_drawNumber_6 : decode cX3_drawNumber 6 = .ok (.iconst 1, 1) := by decide +kernel
theorem dX3_drawNumber_7 : decode cX3_drawNumber 7 = .ok (.if_icmp .ge 10, 3) := by decide +kernel
theorem dX3_drawNumber_10 : decode cX3_drawNumber 10 = .ok (.aload_n 0, 1) := by decide +kernel
theorem dX3_drawNumber_11 : decode cX3_drawNumber 11 = .ok (.iconst 3, 1) := by decide +kernel
theorem dX3_drawNumber_12 : decode cX3_drawNumber 12 = .ok (.iconst 1, 1) := by decide +kernel
theorem dX3_drawNumber_13 : decode cX3_drawNumber 13 = .ok (.invokevirtual 246, 3) := by decide +kernel
theorem dX3_drawNumber_16 : decode cX3_drawNumber 16 = .ok (.return_, 1) := by decide +kernel
theorem dX3_drawNumber_17 : decode cX3_drawNumber 17 = .ok (.aload_n 0, 1) := by decide +kernel
theorem dX3_drawNumber_18 : decode cX3_drawNumber 18 = .ok (.getfield 12, 3) := by decide +kernel
theorem dX3_drawNumber_21 : decode cX3_drawNumber 21 = .ok (.dup, 1) := by decide +kernel
theorem dX3_drawNumber_22 : decode cX3_drawNumber 22 = .ok (.getfield 116, 3) := by decide +kernel
theorem dX3_drawNumber_25 : decode cX3_drawNumber 25 = .ok (.iconst 1, 1) := by decide +kernel
theorem dX3_drawNumber_26 : decode cX3_drawNumber 26 = .ok (.iadd, 1) := by decide +kernel
theorem dX3_drawNumber_27 : decode cX3_drawNumber 27 = .ok (.putfield 116, 3) := by decide +kernel
theorem dX3_drawNumber_30 : decode cX3_drawNumber 30 = .ok (.aload_n 0, 1) := by decide +kernel
theorem dX3_drawNumber_31 : decode cX3_drawNumber 31 = .ok (.getfield 63, 3) := by decide +kernel
theorem dX3_drawNumber_34 : decode cX3_drawNumber 34 = .ok (.ifnull 18, 3) := by decide +kernel
theorem dX3_drawNumber_37 : decode cX3_drawNumber 37 = .ok (.aload_n 0, 1) := by decide +kernel
theorem dX3_drawNumber_38 : decode cX3_drawNumber 38 = .ok (.aload_n 0, 1) := by decide +kernel
theorem dX3_drawNumber_39 : decode cX3_drawNumber 39 = .ok (.getfield 63, 3) := by decide +kernel
theorem dX3_drawNumber_42 : decode cX3_drawNumber 42 = .ok (.iload_n 2, 1) := by decide +kernel
theorem dX3_drawNumber_43 : decode cX3_drawNumber 43 = .ok (.invokevirtual 267, 3) := by decide +kernel
theorem dX3_drawNumber_46 : decode cX3_drawNumber 46 = .ok (.invokevirtual 255, 3) := by decide +kernel
theorem dX3_drawNumber_49 : decode cX3_drawNumber 49 = .ok (.goto 32, 3) := by decide +kernel
theorem dX3_drawNumber_52 : decode cX3_drawNumber 52 = .ok (.aload_n 0, 1) := by decide +kernel
theorem dX3_drawNumber_53 : decode cX3_drawNumber 53 = .ok (.aload_n 0, 1) := by decide +kernel
theorem dX3_drawNumber_54 : decode cX3_drawNumber 54 = .ok (.getfield 110, 3) := by decide +kernel
theorem dX3_drawNumber_57 : decode cX3_drawNumber 57 = .ok (.ldc_w 273, 3) := by decide +kernel
theorem dX3_drawNumber_60 : decode cX3_drawNumber 60 = .ok (.imul, 1) := by decide +kernel
theorem dX3_drawNumber_61 : decode cX3_drawNumber 61 = .ok (.sipush 12345, 3) := by decide +kernel
theorem dX3_drawNumber_64 : decode cX3_drawNumber 64 = .ok (.iadd, 1) := by decide +kernel
theorem dX3_drawNumber_65 : decode cX3_drawNumber 65 = .ok (.putfield 110, 3) := by decide +kernel
theorem dX3_drawNumber_68 : decode cX3_drawNumber 68 = .ok (.aload_n 0, 1) := by decide +kernel
theorem dX3_drawNumber_69 : decode cX3_drawNumber 69 = .ok (.aload_n 0, 1) := by decide +kernel
theorem dX3_drawNumber_70 : decode cX3_drawNumber 70 = .ok (.getfield 110, 3) := by decide +kernel
theorem dX3_drawNumber_73 : decode cX3_drawNumber 73 = .ok (.bipush 16, 2) := by decide +kernel
theorem dX3_drawNumber_75 : decode cX3_drawNumber 75 = .ok (.iushr, 1) := by decide +kernel
theorem dX3_drawNumber_76 : decode cX3_drawNumber 76 = .ok (.iload_n 2, 1) := by decide +kernel
theorem dX3_drawNumber_77 : decode cX3_drawNumber 77 = .ok (.irem, 1) := by decide +kernel
theorem dX3_drawNumber_78 : decode cX3_drawNumber 78 = .ok (.invokevirtual 255, 3) := by decide +kernel
theorem dX3_drawNumber_81 : decode cX3_drawNumber 81 = .ok (.aload_n 1, 1) := by decide +kernel
theorem dX3_drawNumber_82 : decode cX3_drawNumber 82 = .ok (.iconst 0, 1) := by decide +kernel
theorem dX3_drawNumber_83 : decode cX3_drawNumber 83 = .ok (.dup2, 1) := by decide +kernel
theorem dX3_drawNumber_84 : decode cX3_drawNumber 84 = .ok (.iaload, 1) := by decide +kernel
theorem dX3_drawNumber_85 : decode cX3_drawNumber 85 = .ok (.iconst 1, 1) := by decide +kernel
theorem dX3_drawNumber_86 : decode cX3_drawNumber 86 = .ok (.iadd, 1) := by decide +kernel
theorem dX3_drawNumber_87 : decode cX3_drawNumber 87 = .ok (.iastore, 1) := by decide +kernel
theorem dX3_drawNumber_88 : decode cX3_drawNumber 88 = .ok (.return_, 1) := by decide +kernel
theorem dX3_leave_0 : decode cX3_leave 0 = .ok (.aload_n 0, 1) := by decide +kernel
theorem dX3_leave_1 : decode cX3_leave 1 = .ok (.dup, 1) := by decide +kernel
theorem dX3_leave_2 : decode cX3_leave 2 = .ok (.getfield 188, 3) := by decide +kernel
theorem dX3_leave_5 : decode cX3_leave 5 = .ok (.iconst 1, 1) := by decide +kernel
theorem dX3_leave_6 : decode cX3_leave 6 = .ok (.isub, 1) := by decide +kernel
theorem dX3_leave_7 : decode cX3_leave 7 = .ok (.putfield 188, 3) := by decide +kernel
theorem dX3_leave_10 : decode cX3_leave 10 = .ok (.aload_n 0, 1) := by decide +kernel
theorem dX3_leave_11 : decode cX3_leave 11 = .ok (.aload_n 2, 1) := by decide +kernel
theorem dX3_leave_12 : decode cX3_leave 12 = .ok (.iconst 1, 1) := by decide +kernel
theorem dX3_leave_13 : decode cX3_leave 13 = .ok (.iaload, 1) := by decide +kernel
theorem dX3_leave_14 : decode cX3_leave 14 = .ok (.putfield 206, 3) := by decide +kernel
theorem dX3_leave_17 : decode cX3_leave 17 = .ok (.aload_n 2, 1) := by decide +kernel
theorem dX3_leave_18 : decode cX3_leave 18 = .ok (.iconst 3, 1) := by decide +kernel
theorem dX3_leave_19 : decode cX3_leave 19 = .ok (.iaload, 1) := by decide +kernel
theorem dX3_leave_20 : decode cX3_leave 20 = .ok (.ifCond .lt 11, 3) := by decide +kernel
theorem dX3_leave_23 : decode cX3_leave 23 = .ok (.aload_n 0, 1) := by decide +kernel
theorem dX3_leave_24 : decode cX3_leave 24 = .ok (.iconst 1, 1) := by decide +kernel
theorem dX3_leave_25 : decode cX3_leave 25 = .ok (.putfield 185, 3) := by decide +kernel
theorem dX3_leave_28 : decode cX3_leave 28 = .ok (.goto 32, 3) := by decide +kernel
theorem dX3_leave_31 : decode cX3_leave 31 = .ok (.aload_n 0, 1) := by decide +kernel
theorem dX3_leave_32 : decode cX3_leave 32 = .ok (.getfield 188, 3) := by decide +kernel
theorem dX3_leave_35 : decode cX3_leave 35 = .ok (.ifCond .le 25, 3) := by decide +kernel
theorem dX3_leave_38 : decode cX3_leave 38 = .ok (.aload_n 0, 1) := by decide +kernel
theorem dX3_leave_39 : decode cX3_leave 39 = .ok (.iload_n 1, 1) := by decide +kernel
theorem dX3_leave_40 : decode cX3_leave 40 = .ok (.invokevirtual 255, 3) := by decide +kernel
theorem dX3_leave_43 : decode cX3_leave 43 = .ok (.aload_n 0, 1) := by decide +kernel
theorem dX3_leave_44 : decode cX3_leave 44 = .ok (.getfield 43, 3) := by decide +kernel
theorem dX3_leave_47 : decode cX3_leave 47 = .ok (.aload_n 0, 1) := by decide +kernel
theorem dX3_leave_48 : decode cX3_leave 48 = .ok (.getfield 188, 3) := by decide +kernel
theorem dX3_leave_51 : decode cX3_leave 51 = .ok (.iconst 1, 1) := by decide +kernel
theorem dX3_leave_52 : decode cX3_leave 52 = .ok (.isub, 1) := by decide +kernel
theorem dX3_leave_53 : decode cX3_leave 53 = .ok (.aaload, 1) := by decide +kernel
theorem dX3_leave_54 : decode cX3_leave 54 = .ok (.iconst 0, 1) := by decide +kernel
theorem dX3_leave_55 : decode cX3_leave 55 = .ok (.dup2, 1) := by decide +kernel
theorem dX3_leave_56 : decode cX3_leave 56 = .ok (.iaload, 1) := by decide +kernel
theorem dX3_leave_57 : decode cX3_leave 57 = .ok (.iconst 1, 1) := by decide +kernel
theorem dX3_leave_58 : decode cX3_leave 58 = .ok (.iadd, 1) := by decide +kernel
theorem dX3_leave_59 : decode cX3_leave 59 = .ok (.iastore, 1) := by decide +kernel
theorem dX3_leave_60 : decode cX3_leave 60 = .ok (.return_, 1) := by decide +kernel
theorem dX3_fail_0 : decode cX3_fail 0 = .ok (.aload_n 0, 1) := by decide +kernel
theorem dX3_fail_1 : decode cX3_fail 1 = .ok (.iload_n 2, 1) := by decide +kernel
theorem dX3_fail_2 : decode cX3_fail 2 = .ok (.putfield 164, 3) := by decide +kernel
theorem dX3_fail_5 : decode cX3_fail 5 = .ok (.aload_n 0, 1) := by decide +kernel
theorem dX3_fail_6 : decode cX3_fail 6 = .ok (.iload_n 1, 1) := by decide +kernel
theorem dX3_fail_7 : decode cX3_fail 7 = .ok (.putfield 155, 3) := by decide +kernel
theorem dX3_fail_10 : decode cX3_fail 10 = .ok (.iconst 1, 1) := by decide +kernel
theorem dX3_fail_11 : decode cX3_fail 11 = .ok (.istore_n 3, 1) := by decide +kernel
theorem dX3_fail_12 : decode cX3_fail 12 = .ok (.aload_n 0, 1) := by decide +kernel
theorem dX3_fail_13 : decode cX3_fail 13 = .ok (.getfield 188, 3) := by decide +kernel
theorem dX3_fail_16 : decode cX3_fail 16 = .ok (.ifCond .le 170, 3) := by decide +kernel
theorem dX3_fail_19 : decode cX3_fail 19 = .ok (.aload_n 0, 1) := by decide +kernel
theorem dX3_fail_20 : decode cX3_fail 20 = .ok (.getfield 43, 3) := by decide +kernel
theorem dX3_fail_23 : decode cX3_fail 23 = .ok (.aload_n 0, 1) := by decide +kernel
theorem dX3_fail_24 : decode cX3_fail 24 = .ok (.getfield 188, 3) := by decide +kernel
theorem dX3_fail_27 : decode cX3_fail 27 = .ok (.iconst 1, 1) := by decide +kernel
theorem dX3_fail_28 : decode cX3_fail 28 = .ok (.isub, 1) := by decide +kernel
theorem dX3_fail_29 : decode cX3_fail 29 = .ok (.aaload, 1) := by decide +kernel
theorem dX3_fail_30 : decode cX3_fail 30 = .ok (.astore 4, 2) := by decide +kernel
theorem dX3_fail_32 : decode cX3_fail 32 = .ok (.iload_n 3, 1) := by decide +kernel
theorem dX3_fail_33 : decode cX3_fail 33 = .ok (.ifCond .eq 20, 3) := by decide +kernel
theorem dX3_fail_36 : decode cX3_fail 36 = .ok (.aload_n 0, 1) := by decide +kernel
theorem dX3_fail_37 : decode cX3_fail 37 = .ok (.aload 4, 2) := by decide +kernel
theorem dX3_fail_39 : decode cX3_fail 39 = .ok (.iconst 0, 1) := by decide +kernel
theorem dX3_fail_40 : decode cX3_fail 40 = .ok (.iaload, 1) := by decide +kernel
theorem dX3_fail_41 : decode cX3_fail 41 = .ok (.sipush 1000, 3) := by decide +kernel
theorem dX3_fail_44 : decode cX3_fail 44 = .ok (.aload 4, 2) := by decide +kernel
theorem dX3_fail_46 : decode cX3_fail 46 = .ok (.iconst 2, 1) := by decide +kernel
theorem dX3_fail_47 : decode cX3_fail 47 = .ok (.iaload, 1) := by decide +kernel
theorem dX3_fail_48 : decode cX3_fail 48 = .ok (.imul, 1) := by decide +kernel
theorem dX3_fail_49 : decode cX3_fail 49 = .ok (.iadd, 1) := by decide +kernel
theorem dX3_fail_50 : decode cX3_fail 50 = .ok (.putfield 158, 3) := by decide +kernel
theorem dX3_fail_53 : decode cX3_fail 53 = .ok (.aload_n 0, 1) := by decide +kernel
theorem dX3_fail_54 : decode cX3_fail 54 = .ok (.getfield 33, 3) := by decide +kernel
theorem dX3_fail_57 : decode cX3_fail 57 = .ok (.aload 4, 2) := by decide +kernel
theorem dX3_fail_59 : decode cX3_fail 59 = .ok (.iconst 2, 1) := by decide +kernel
theorem dX3_fail_60 : decode cX3_fail 60 = .ok (.iaload, 1) := by decide +kernel
theorem dX3_fail_61 : decode cX3_fail 61 = .ok (.aaload, 1) := by decide +kernel
theorem dX3_fail_62 : decode cX3_fail 62 = .ok (.getfield 274, 3) := by decide +kernel
theorem dX3_fail_65 : decode cX3_fail 65 = .ok (.aload 4, 2) := by decide +kernel
theorem dX3_fail_67 : decode cX3_fail 67 = .ok (.iconst 0, 1) := by decide +kernel
theorem dX3_fail_68 : decode cX3_fail 68 = .ok (.iaload, 1) := by decide +kernel
theorem dX3_fail_69 : decode cX3_fail 69 = .ok (.iaload, 1) := by decide +kernel
theorem dX3_fail_70 : decode cX3_fail 70 = .ok (.istore 5, 2) := by decide +kernel
theorem dX3_fail_72 : decode cX3_fail 72 = .ok (.aload 4, 2) := by decide +kernel
theorem dX3_fail_74 : decode cX3_fail 74 = .ok (.iconst 1, 1) := by decide +kernel
theorem dX3_fail_75 : decode cX3_fail 75 = .ok (.iaload, 1) := by decide +kernel
theorem dX3_fail_76 : decode cX3_fail 76 = .ok (.bipush 10, 2) := by decide +kernel
theorem dX3_fail_78 : decode cX3_fail 78 = .ok (.iadd, 1) := by decide +kernel
theorem dX3_fail_79 : decode cX3_fail 79 = .ok (.istore 6, 2) := by decide +kernel
theorem dX3_fail_81 : decode cX3_fail 81 = .ok (.aload_n 0, 1) := by decide +kernel
theorem dX3_fail_82 : decode cX3_fail 82 = .ok (.getfield 164, 3) := by decide +kernel
theorem dX3_fail_85 : decode cX3_fail 85 = .ok (.iconst 1, 1) := by decide +kernel
theorem dX3_fail_86 : decode cX3_fail 86 = .ok (.if_icmp .ne 49, 3) := by decide +kernel
theorem dX3_fail_89 : decode cX3_fail 89 = .ok (.iload 5, 2) := by decide +kernel
theorem dX3_fail_91 : decode cX3_fail 91 = .ok (.ifCond .lt 44, 3) := by decide +kernel
theorem dX3_fail_94 : decode cX3_fail 94 = .ok (.iload 6, 2) := by decide +kernel
theorem dX3_fail_96 : decode cX3_fail 96 = .ok (.aload_n 0, 1) := by decide +kernel
theorem dX3_fail_97 : decode cX3_fail 97 = .ok (.getfield 37, 3) := by decide +kernel
theorem dX3_fail_100 : decode cX3_fail 100 = .ok (.arraylength, 1) := by decide +kernel
theorem dX3_fail_101 : decode cX3_fail 101 = .ok (.if_icmp .ge 34, 3) := by decide +kernel
theorem dX3_fail_104 : decode cX3_fail 104 = .ok (.aload 4, 2) := by decide +kernel
theorem dX3_fail_106 : decode cX3_fail 106 = .ok (.iconst 0, 1) := by decide +kernel
theorem dX3_fail_107 : decode cX3_fail 107 = .ok (.iload 5, 2) := by decide +kernel
theorem dX3_fail_109 : decode cX3_fail 109 = .ok (.iastore, 1) := by decide +kernel
theorem dX3_fail_110 : decode cX3_fail 110 = .ok (.aload_n 0, 1) := by decide +kernel
theorem dX3_fail_111 : decode cX3_fail 111 = .ok (.getfield 37, 3) := by decide +kernel
theorem dX3_fail_114 : decode cX3_fail 114 = .ok (.iload 6, 2) := by decide +kernel
theorem dX3_fail_116 : decode cX3_fail 116 = .ok (.aload_n 0, 1) := by decide +kernel
theorem dX3_fail_117 : decode cX3_fail 117 = .ok (.getfield 155, 3) := by decide +kernel
theorem dX3_fail_120 : decode cX3_fail 120 = .ok (.iastore, 1) := by decide +kernel
theorem dX3_fail_121 : decode cX3_fail 121 = .ok (.aload_n 0, 1) := by decide +kernel
theorem dX3_fail_122 : decode cX3_fail 122 = .ok (.iload 6, 2) := by decide +kernel
theorem dX3_fail_124 : decode cX3_fail 124 = .ok (.iconst 1, 1) := by decide +kernel
theorem dX3_fail_125 : decode cX3_fail 125 = .ok (.iadd, 1) := by decide +kernel
theorem dX3_fail_126 : decode cX3_fail 126 = .ok (.putfield 206, 3) := by decide +kernel
theorem dX3_fail_129 : decode cX3_fail 129 = .ok (.aload_n 0, 1) := by decide +kernel
theorem dX3_fail_130 : decode cX3_fail 130 = .ok (.iconst 0, 1) := by decide +kernel
theorem dX3_fail_131 : decode cX3_fail 131 = .ok (.putfield 164, 3) := by decide +kernel
theorem dX3_fail_134 : decode cX3_fail 134 = .ok (.return_, 1) := by decide +kernel
theorem dX3_fail_135 : decode cX3_fail 135 = .ok (.aload_n 0, 1) := by decide +kernel
theorem dX3_fail_136 : decode cX3_fail 136 = .ok (.dup, 1) := by decide +kernel
theorem dX3_fail_137 : decode cX3_fail 137 = .ok (.getfield 188, 3) := by decide +kernel
theorem dX3_fail_140 : decode cX3_fail 140 = .ok (.iconst 1, 1) := by decide +kernel
theorem dX3_fail_141 : decode cX3_fail 141 = .ok (.isub, 1) := by decide +kernel
theorem dX3_fail_142 : decode cX3_fail 142 = .ok (.putfield 188, 3) := by decide +kernel
theorem dX3_fail_145 : decode cX3_fail 145 = .ok (.aload 4, 2) := by decide +kernel
theorem dX3_fail_147 : decode cX3_fail 147 = .ok (.iconst 3, 1) := by decide +kernel
theorem dX3_fail_148 : decode cX3_fail 148 = .ok (.iaload, 1) := by decide +kernel
theorem dX3_fail_149 : decode cX3_fail 149 = .ok (.ifCond .lt 7, 3) := by decide +kernel
theorem dX3_fail_152 : decode cX3_fail 152 = .ok (.iconst 1, 1) := by decide +kernel
theorem dX3_fail_153 : decode cX3_fail 153 = .ok (.goto 4, 3) := by decide +kernel
theorem dX3_fail_156 : decode cX3_fail 156 = .ok (.iconst 0, 1) := by decide +kernel
theorem dX3_fail_157 : decode cX3_fail 157 = .ok (.istore_n 3, 1) := by decide +kernel
theorem dX3_fail_158 : decode cX3_fail 158 = .ok (.iload_n 3, 1) := by decide +kernel
theorem dX3_fail_159 : decode cX3_fail 159 = .ok (.ifCond .eq 24, 3) := by decide +kernel
theorem dX3_fail_162 : decode cX3_fail 162 = .ok (.aload_n 0, 1) := by decide +kernel
theorem dX3_fail_163 : decode cX3_fail 163 = .ok (.getfield 49, 3) := by decide +kernel
theorem dX3_fail_166 : decode cX3_fail 166 = .ok (.aload 4, 2) := by decide +kernel
theorem dX3_fail_168 : decode cX3_fail 168 = .ok (.iconst 3, 1) := by decide +kernel
theorem dX3_fail_169 : decode cX3_fail 169 = .ok (.iaload, 1) := by decide +kernel
theorem dX3_fail_170 : decode cX3_fail 170 = .ok (.iconst 2, 1) := by decide +kernel
theorem dX3_fail_171 : decode cX3_fail 171 = .ok (.iastore, 1) := by decide +kernel
theorem dX3_fail_172 : decode cX3_fail 172 = .ok (.aload_n 0, 1) := by decide +kernel
theorem dX3_fail_173 : decode cX3_fail 173 = .ok (.iconst 1, 1) := by decide +kernel
theorem dX3_fail_174 : decode cX3_fail 174 = .ok (.putfield 164, 3) := by decide +kernel
theorem dX3_fail_177 : decode cX3_fail 177 = .ok (.aload_n 0, 1) := by decide +kernel
theorem dX3_fail_178 : decode cX3_fail 178 = .ok (.bipush 8, 2) := by decide +kernel
theorem dX3_fail_180 : decode cX3_fail 180 = .ok (.putfield 155, 3) := by decide +kernel
theorem dX3_fail_183 : decode cX3_fail 183 = .ok (.goto (-171), 3) := by decide +kernel
theorem dX3_fail_186 : decode cX3_fail 186 = .ok (.return_, 1) := by decide +kernel
theorem dX3_useMember_0 : decode cX3_useMember 0 = .ok (.aload_n 3, 1) := by decide +kernel
theorem dX3_useMember_1 : decode cX3_useMember 1 = .ok (.iconst 2, 1) := by decide +kernel
theorem dX3_useMember_2 : decode cX3_useMember 2 = .ok (.iaload, 1) := by decide +kernel
theorem dX3_useMember_3 : decode cX3_useMember 3 = .ok (.istore 4, 2) := by decide +kernel
theorem dX3_useMember_5 : decode cX3_useMember 5 = .ok (.iload_n 2, 1) := by decide +kernel
theorem dX3_useMember_6 : decode cX3_useMember 6 = .ok (.istore 5, 2) := by decide +kernel
theorem dX3_useMember_8 : decode cX3_useMember 8 = .ok (.aload_n 0, 1) := by decide +kernel
theorem dX3_useMember_9 : decode cX3_useMember 9 = .ok (.getfield 53, 3) := by decide +kernel
theorem dX3_useMember_12 : decode cX3_useMember 12 = .ok (.ifnull 8, 3) := by decide +kernel
theorem dX3_useMember_15 : decode cX3_useMember 15 = .ok (.iload 4, 2) := by decide +kernel
theorem dX3_useMember_17 : decode cX3_useMember 17 = .ok (.ifCond .eq 8, 3) := by decide +kernel
theorem dX3_useMember_20 : decode cX3_useMember 20 = .ok (.bipush (-2), 2) := by decide +kernel
theorem dX3_useMember_22 : decode cX3_useMember 22 = .ok (.goto 11, 3) := by decide +kernel
theorem dX3_useMember_25 : decode cX3_useMember 25 = .ok (.aload_n 0, 1) := by decide +kernel
theorem dX3_useMember_26 : decode cX3_useMember 26 = .ok (.getfield 53, 3) := by decide +kernel
theorem dX3_useMember_29 : decode cX3_useMember 29 = .ok (.iload_n 2, 1) := by decide +kernel
theorem dX3_useMember_30 : decode cX3_useMember 30 = .ok (.invokevirtual 277, 3) := by decide +kernel
theorem dX3_useMember_33 : decode cX3_useMember 33 = .ok (.istore 6, 2) := by decide +kernel
theorem dX3_useMember_35 : decode cX3_useMember 35 = .ok (.iload 6, 2) := by decide +kernel
theorem dX3_useMember_37 : decode cX3_useMember 37 = .ok (.ifCond .lt 13, 3) := by decide +kernel
theorem dX3_useMember_40 : decode cX3_useMember 40 = .ok (.iconst 1, 1) := by decide +kernel
theorem dX3_useMember_41 : decode cX3_useMember 41 = .ok (.istore 4, 2) := by decide +kernel
theorem dX3_useMember_43 : decode cX3_useMember 43 = .ok (.iload 6, 2) := by decide +kernel
theorem dX3_useMember_45 : decode cX3_useMember 45 = .ok (.istore 5, 2) := by decide +kernel
theorem dX3_useMember_47 : decode cX3_useMember 47 = .ok (.goto 19, 3) := by decide +kernel
theorem dX3_useMember_50 : decode cX3_useMember 50 = .ok (.iload 6, 2) := by decide +kernel
theorem dX3_useMember_52 : decode cX3_useMember 52 = .ok (.bipush (-2), 2) := by decide +kernel
theorem dX3_useMember_54 : decode cX3_useMember 54 = .ok (.if_icmp .eq 12, 3) := by decide +kernel
theorem dX3_useMember_57 : decode cX3_useMember 57 = .ok (.aload_n 0, 1) := by decide +kernel
theorem dX3_useMember_58 : decode cX3_useMember 58 = .ok (.iload 6, 2) := by decide +kernel
theorem dX3_useMember_60 : decode cX3_useMember 60 = .ok (.ineg, 1) := by decide +kernel
theorem dX3_useMember_61 : decode cX3_useMember 61 = .ok (.iconst 1, 1) := by decide +kernel
theorem dX3_useMember_62 : decode cX3_useMember 62 = .ok (.invokevirtual 246, 3) := by decide +kernel
theorem dX3_useMember_65 : decode cX3_useMember 65 = .ok (.return_, 1) := by decide +kernel
theorem dX3_useMember_66 : decode cX3_useMember 66 = .ok (.aload_n 0, 1) := by decide +kernel
theorem dX3_useMember_67 : decode cX3_useMember 67 = .ok (.getfield 33, 3) := by decide +kernel
theorem dX3_useMember_70 : decode cX3_useMember 70 = .ok (.iload 4, 2) := by decide +kernel
theorem dX3_useMember_72 : decode cX3_useMember 72 = .ok (.aaload, 1) := by decide +kernel
theorem dX3_useMember_73 : decode cX3_useMember 73 = .ok (.getfield 79, 3) := by decide +kernel
theorem dX3_useMember_76 : decode cX3_useMember 76 = .ok (.iload 5, 2) := by decide +kernel
theorem dX3_useMember_78 : decode cX3_useMember 78 = .ok (.invokestatic 259, 3) := by decide +kernel
theorem dX3_useMember_81 : decode cX3_useMember 81 = .ok (.astore 7, 2) := by decide +kernel
theorem dX3_useMember_83 : decode cX3_useMember 83 = .ok (.aload 7, 2) := by decide +kernel
theorem dX3_useMember_85 : decode cX3_useMember 85 = .ok (.ifnull 17, 3) := by decide +kernel
theorem dX3_useMember_88 : decode cX3_useMember 88 = .ok (.aload_n 0, 1) := by decide +kernel
theorem dX3_useMember_89 : decode cX3_useMember 89 = .ok (.iload 4, 2) := by decide +kernel
theorem dX3_useMember_91 : decode cX3_useMember 91 = .ok (.aload 7, 2) := by decide +kernel
theorem dX3_useMember_93 : decode cX3_useMember 93 = .ok (.getfield 130, 3) := by decide +kernel
theorem dX3_useMember_96 : decode cX3_useMember 96 = .ok (.invokevirtual 280, 3) := by decide +kernel
theorem dX3_useMember_99 : decode cX3_useMember 99 = .ok (.ifCond .ne 4, 3) := by decide +kernel
theorem dX3_useMember_102 : decode cX3_useMember 102 = .ok (.return_, 1) := by decide +kernel
theorem dX3_useMember_103 : decode cX3_useMember 103 = .ok (.iload 4, 2) := by decide +kernel
theorem dX3_useMember_105 : decode cX3_useMember 105 = .ok (.sipush 4800, 3) := by decide +kernel
theorem dX3_useMember_108 : decode cX3_useMember 108 = .ok (.imul, 1) := by decide +kernel
theorem dX3_useMember_109 : decode cX3_useMember 109 = .ok (.aload 7, 2) := by decide +kernel
theorem dX3_useMember_111 : decode cX3_useMember 111 = .ok (.getfield 98, 3) := by decide +kernel
theorem dX3_useMember_114 : decode cX3_useMember 114 = .ok (.iadd, 1) := by decide +kernel
theorem dX3_useMember_115 : decode cX3_useMember 115 = .ok (.istore 8, 2) := by decide +kernel
theorem dX3_useMember_117 : decode cX3_useMember 117 = .ok (.iload_n 1, 1) := by decide +kernel
theorem dX3_useMember_118 : decode cX3_useMember 118 = .ok (.bipush 7, 2) := by decide +kernel
theorem dX3_useMember_120 : decode cX3_useMember 120 = .ok (.if_icmp .ne 16, 3) := by decide +kernel
theorem dX3_useMember_123 : decode cX3_useMember 123 = .ok (.aload_n 0, 1) := by decide +kernel
theorem dX3_useMember_124 : decode cX3_useMember 124 = .ok (.iload 4, 2) := by decide +kernel
theorem dX3_useMember_126 : decode cX3_useMember 126 = .ok (.iload 5, 2) := by decide +kernel
theorem dX3_useMember_128 : decode cX3_useMember 128 = .ok (.aload 7, 2) := by decide +kernel
theorem dX3_useMember_130 : decode cX3_useMember 130 = .ok (.invokevirtual 284, 3) := by decide +kernel
theorem dX3_useMember_133 : decode cX3_useMember 133 = .ok (.goto 67, 3) := by decide +kernel
theorem dX3_useMember_136 : decode cX3_useMember 136 = .ok (.iload_n 1, 1) := by decide +kernel
theorem dX3_useMember_137 : decode cX3_useMember 137 = .ok (.iconst 3, 1) := by decide +kernel
theorem dX3_useMember_138 : decode cX3_useMember 138 = .ok (.if_icmp .ne 24, 3) := by decide +kernel
theorem dX3_useMember_141 : decode cX3_useMember 141 = .ok (.aload_n 0, 1) := by decide +kernel
theorem dX3_useMember_142 : decode cX3_useMember 142 = .ok (.aload_n 0, 1) := by decide +kernel
theorem dX3_useMember_143 : decode cX3_useMember 143 = .ok (.getfield 46, 3) := by decide +kernel
theorem dX3_useMember_146 : decode cX3_useMember 146 = .ok (.iload 8, 2) := by decide +kernel
theorem dX3_useMember_148 : decode cX3_useMember 148 = .ok (.iaload, 1) := by decide +kernel
theorem dX3_useMember_149 : decode cX3_useMember 149 = .ok (.invokevirtual 255, 3) := by decide +kernel
theorem dX3_useMember_152 : decode cX3_useMember 152 = .ok (.aload_n 3, 1) := by decide +kernel
theorem dX3_useMember_153 : decode cX3_useMember 153 = .ok (.iconst 0, 1) := by decide +kernel
theorem dX3_useMember_154 : decode cX3_useMember 154 = .ok (.dup2, 1) := by decide +kernel
theorem dX3_useMember_155 : decode cX3_useMember 155 = .ok (.iaload, 1) := by decide +kernel
theorem dX3_useMember_156 : decode cX3_useMember 156 = .ok (.iconst 1, 1) := by decide +kernel
theorem dX3_useMember_157 : decode cX3_useMember 157 = .ok (.iadd, 1) := by decide +kernel
theorem dX3_useMember_158 : decode cX3_useMember 158 = .ok (.iastore, 1) := by decide +kernel
theorem dX3_useMember_159 : decode cX3_useMember 159 = .ok (.goto 41, 3) := by decide +kernel
theorem dX3_useMember_162 : decode cX3_useMember 162 = .ok (.iload_n 1, 1) := by decide +kernel
theorem dX3_useMember_163 : decode cX3_useMember 163 = .ok (.iconst 4, 1) := by decide +kernel
theorem dX3_useMember_164 : decode cX3_useMember 164 = .ok (.if_icmp .ne 24, 3) := by decide +kernel
theorem dX3_useMember_167 : decode cX3_useMember 167 = .ok (.aload_n 0, 1) := by decide +kernel
theorem dX3_useMember_168 : decode cX3_useMember 168 = .ok (.getfield 46, 3) := by decide +kernel
theorem dX3_useMember_171 : decode cX3_useMember 171 = .ok (.iload 8, 2) := by decide +kernel
theorem dX3_useMember_173 : decode cX3_useMember 173 = .ok (.aload_n 0, 1) := by decide +kernel
theorem dX3_useMember_174 : decode cX3_useMember 174 = .ok (.invokevirtual 236, 3) := by decide +kernel
theorem dX3_useMember_177 : decode cX3_useMember 177 = .ok (.iastore, 1) := by decide +kernel
theorem dX3_useMember_178 : decode cX3_useMember 178 = .ok (.aload_n 3, 1) := by decide +kernel
theorem dX3_useMember_179 : decode cX3_useMember 179 = .ok (.iconst 0, 1) := by decide +kernel
theorem dX3_useMember_180 : decode cX3_useMember 180 = .ok (.dup2, 1) := by decide +kernel
theorem dX3_useMember_181 : decode cX3_useMember 181 = .ok (.iaload, 1) := by decide +kernel
theorem dX3_useMember_182 : decode cX3_useMember 182 = .ok (.iconst 1, 1) := by decide +kernel
theorem dX3_useMember_183 : decode cX3_useMember 183 = .ok (.iadd, 1) := by decide +kernel
theorem dX3_useMember_184 : decode cX3_useMember 184 = .ok (.iastore, 1) := by decide +kernel
theorem dX3_useMember_185 : decode cX3_useMember 185 = .ok (.goto 15, 3) := by decide +kernel
theorem dX3_useMember_188 : decode cX3_useMember 188 = .ok (.aload_n 0, 1) := by decide +kernel
theorem dX3_useMember_189 : decode cX3_useMember 189 = .ok (.iload_n 1, 1) := by decide +kernel
theorem dX3_useMember_190 : decode cX3_useMember 190 = .ok (.iload 8, 2) := by decide +kernel
theorem dX3_useMember_192 : decode cX3_useMember 192 = .ok (.aload 7, 2) := by decide +kernel
theorem dX3_useMember_194 : decode cX3_useMember 194 = .ok (.getfield 101, 3) := by decide +kernel
theorem dX3_useMember_197 : decode cX3_useMember 197 = .ok (.invokevirtual 288, 3) := by decide +kernel
theorem dX3_useMember_200 : decode cX3_useMember 200 = .ok (.return_, 1) := by decide +kernel
theorem dX3_useRow_0 : decode cX3_useRow 0 = .ok (.aload_n 0, 1) := by decide +kernel
theorem dX3_useRow_1 : decode cX3_useRow 1 = .ok (.getfield 43, 3) := by decide +kernel
theorem dX3_useRow_4 : decode cX3_useRow 4 = .ok (.aload_n 0, 1) := by decide +kernel
theorem dX3_useRow_5 : decode cX3_useRow 5 = .ok (.getfield 188, 3) := by decide +kernel
theorem dX3_useRow_8 : decode cX3_useRow 8 = .ok (.iconst 1, 1) := by decide +kernel
theorem dX3_useRow_9 : decode cX3_useRow 9 = .ok (.isub, 1) := by decide +kernel
theorem dX3_useRow_10 : decode cX3_useRow 10 = .ok (.aaload, 1) := by decide +kernel
theorem dX3_useRow_11 : decode cX3_useRow 11 = .ok (.astore 4, 2) := by decide +kernel
theorem dX3_useRow_13 : decode cX3_useRow 13 = .ok (.iload_n 1, 1) := by decide +kernel
theorem dX3_useRow_14 : decode cX3_useRow 14 = .ok (.bipush 6, 2) := by decide +kernel
theorem dX3_useRow_16 : decode cX3_useRow 16 = .ok (.if_icmp .ne 10, 3) := by decide +kernel
theorem dX3_useRow_19 : decode cX3_useRow 19 = .ok (.aload_n 0, 1) := by decide +kernel
theorem dX3_useRow_20 : decode cX3_useRow 20 = .ok (.invokevirtual 236, 3) := by decide +kernel
theorem dX3_useRow_23 : decode cX3_useRow 23 = .ok (.goto 4, 3) := by decide +kernel
theorem dX3_useRow_26 : decode cX3_useRow 26 = .ok (.iconst 0, 1) := by decide +kernel
theorem dX3_useRow_27 : decode cX3_useRow 27 = .ok (.istore 5, 2) := by decide +kernel
theorem dX3_useRow_29 : decode cX3_useRow 29 = .ok (.aload_n 0, 1) := by decide +kernel
theorem dX3_useRow_30 : decode cX3_useRow 30 = .ok (.invokevirtual 236, 3) := by decide +kernel
theorem dX3_useRow_33 : decode cX3_useRow 33 = .ok (.istore 6, 2) := by decide +kernel
theorem dX3_useRow_35 : decode cX3_useRow 35 = .ok (.iload 6, 2) := by decide +kernel
theorem dX3_useRow_37 : decode cX3_useRow 37 = .ok (.ifCond .lt 9, 3) := by decide +kernel
theorem dX3_useRow_40 : decode cX3_useRow 40 = .ok (.iload 6, 2) := by decide +kernel
theorem dX3_useRow_42 : decode cX3_useRow 42 = .ok (.iload_n 3, 1) := by decide +kernel
theorem dX3_useRow_43 : decode cX3_useRow 43 = .ok (.if_icmp .lt 10, 3) := by decide +kernel
theorem dX3_useRow_46 : decode cX3_useRow 46 = .ok (.aload_n 0, 1) := by decide +kernel
theorem dX3_useRow_47 : decode cX3_useRow 47 = .ok (.iconst 2, 1) := by decide +kernel
theorem dX3_useRow_48 : decode cX3_useRow 48 = .ok (.iconst 1, 1) := by decide +kernel
theorem dX3_useRow_49 : decode cX3_useRow 49 = .ok (.invokevirtual 246, 3) := by decide +kernel
theorem dX3_useRow_52 : decode cX3_useRow 52 = .ok (.return_, 1) := by decide +kernel
theorem dX3_useRow_53 : decode cX3_useRow 53 = .ok (.iload_n 1, 1) := by decide +kernel
theorem dX3_useRow_54 : decode cX3_useRow 54 = .ok (.bipush 6, 2) := by decide +kernel
theorem dX3_useRow_56 : decode cX3_useRow 56 = .ok (.if_icmp .ne 17, 3) := by decide +kernel
theorem dX3_useRow_59 : decode cX3_useRow 59 = .ok (.aload_n 0, 1) := by decide +kernel
theorem dX3_useRow_60 : decode cX3_useRow 60 = .ok (.getfield 46, 3) := by decide +kernel
theorem dX3_useRow_63 : decode cX3_useRow 63 = .ok (.iload_n 2, 1) := by decide +kernel
theorem dX3_useRow_64 : decode cX3_useRow 64 = .ok (.iload 6, 2) := by decide +kernel
theorem dX3_useRow_66 : decode cX3_useRow 66 = .ok (.iadd, 1) := by decide +kernel
theorem dX3_useRow_67 : decode cX3_useRow 67 = .ok (.iload 5, 2) := by decide +kernel
theorem dX3_useRow_69 : decode cX3_useRow 69 = .ok (.iastore, 1) := by decide +kernel
theorem dX3_useRow_70 : decode cX3_useRow 70 = .ok (.goto 16, 3) := by decide +kernel
theorem dX3_useRow_73 : decode cX3_useRow 73 = .ok (.aload_n 0, 1) := by decide +kernel
theorem dX3_useRow_74 : decode cX3_useRow 74 = .ok (.aload_n 0, 1) := by decide +kernel
theorem dX3_useRow_75 : decode cX3_useRow 75 = .ok (.getfield 46, 3) := by decide +kernel
theorem dX3_useRow_78 : decode cX3_useRow 78 = .ok (.iload_n 2, 1) := by decide +kernel
theorem dX3_useRow_79 : decode cX3_useRow 79 = .ok (.iload 6, 2) := by decide +kernel
theorem dX3_useRow_81 : decode cX3_useRow 81 = .ok (.iadd, 1) := by decide +kernel
theorem dX3_useRow_82 : decode cX3_useRow 82 = .ok (.iaload, 1) := by decide +kernel
theorem dX3_useRow_83 : decode cX3_useRow 83 = .ok (.invokevirtual 255, 3) := by decide +kernel
theorem dX3_useRow_86 : decode cX3_useRow 86 = .ok (.aload 4, 2) := by decide +kernel
theorem dX3_useRow_88 : decode cX3_useRow 88 = .ok (.iconst 0, 1) := by decide +kernel
theorem dX3_useRow_89 : decode cX3_useRow 89 = .ok (.dup2, 1) := by decide +kernel
theorem dX3_useRow_90 : decode cX3_useRow 90 = .ok (.iaload, 1) := by decide +kernel
theorem dX3_useRow_91 : decode cX3_useRow 91 = .ok (.iconst 1, 1) := by decide +kernel
theorem dX3_useRow_92 : decode cX3_useRow 92 = .ok (.iadd, 1) := by decide +kernel
theorem dX3_useRow_93 : decode cX3_useRow 93 = .ok (.iastore, 1) := by decide +kernel
theorem dX3_useRow_94 : decode cX3_useRow 94 = .ok (.return_, 1) := by decide +kernel
theorem dX3_seesTo_0 : decode cX3_seesTo 0 = .ok (.iload_n 1, 1) := by decide +kernel
theorem dX3_seesTo_1 : decode cX3_seesTo 1 = .ok (.bipush 8, 2) := by decide +kernel
theorem dX3_seesTo_3 : decode cX3_seesTo 3 = .ok (.imul, 1) := by decide +kernel
theorem dX3_seesTo_4 : decode cX3_seesTo 4 = .ok (.iload_n 2, 1) := by decide +kernel
theorem dX3_seesTo_5 : decode cX3_seesTo 5 = .ok (.iadd, 1) := by decide +kernel
theorem dX3_seesTo_6 : decode cX3_seesTo 6 = .ok (.istore_n 3, 1) := by decide +kernel
theorem dX3_seesTo_7 : decode cX3_seesTo 7 = .ok (.aload_n 0, 1) := by decide +kernel
theorem dX3_seesTo_8 : decode cX3_seesTo 8 = .ok (.getfield 49, 3) := by decide +kernel
theorem dX3_seesTo_11 : decode cX3_seesTo 11 = .ok (.iload_n 3, 1) := by decide +kernel
theorem dX3_seesTo_12 : decode cX3_seesTo 12 = .ok (.iaload, 1) := by decide +kernel
theorem dX3_seesTo_13 : decode cX3_seesTo 13 = .ok (.iconst 1, 1) := by decide +kernel
theorem dX3_seesTo_14 : decode cX3_seesTo 14 = .ok (.if_icmp .ne 5, 3) := by decide +kernel
theorem dX3_seesTo_17 : decode cX3_seesTo 17 = .ok (.iconst 1, 1) := by decide +kernel
theorem dX3_seesTo_18 : decode cX3_seesTo 18 = .ok (.ireturn, 1) := by decide +kernel
theorem dX3_seesTo_19 : decode cX3_seesTo 19 = .ok (.aload_n 0, 1) := by decide +kernel
theorem dX3_seesTo_20 : decode cX3_seesTo 20 = .ok (.getfield 49, 3) := by decide +kernel
theorem dX3_seesTo_23 : decode cX3_seesTo 23 = .ok (.iload_n 3, 1) := by decide +kernel
theorem dX3_seesTo_24 : decode cX3_seesTo 24 = .ok (.iaload, 1) := by decide +kernel
theorem dX3_seesTo_25 : decode cX3_seesTo 25 = .ok (.iconst 2, 1) := by decide +kernel
theorem dX3_seesTo_26 : decode cX3_seesTo 26 = .ok (.if_icmp .ne 12, 3) := by decide +kernel
theorem dX3_seesTo_29 : decode cX3_seesTo 29 = .ok (.aload_n 0, 1) := by decide +kernel
theorem dX3_seesTo_30 : decode cX3_seesTo 30 = .ok (.bipush 9, 2) := by decide +kernel
theorem dX3_seesTo_32 : decode cX3_seesTo 32 = .ok (.iconst 1, 1) := by decide +kernel
theorem dX3_seesTo_33 : decode cX3_seesTo 33 = .ok (.invokevirtual 246, 3) := by decide +kernel
theorem dX3_seesTo_36 : decode cX3_seesTo 36 = .ok (.iconst 0, 1) := by decide +kernel
theorem dX3_seesTo_37 : decode cX3_seesTo 37 = .ok (.ireturn, 1) := by decide +kernel
theorem dX3_seesTo_38 : decode cX3_seesTo 38 = .ok (.aload_n 0, 1) := by decide +kernel
theorem dX3_seesTo_39 : decode cX3_seesTo 39 = .ok (.getfield 33, 3) := by decide +kernel
theorem dX3_seesTo_42 : decode cX3_seesTo 42 = .ok (.iload_n 1, 1) := by decide +kernel
theorem dX3_seesTo_43 : decode cX3_seesTo 43 = .ok (.aaload, 1) := by decide +kernel
theorem dX3_seesTo_44 : decode cX3_seesTo 44 = .ok (.getfield 133, 3) := by decide +kernel
theorem dX3_seesTo_47 : decode cX3_seesTo 47 = .ok (.iload_n 2, 1) := by decide +kernel
theorem dX3_seesTo_48 : decode cX3_seesTo 48 = .ok (.invokevirtual 89, 3) := by decide +kernel
theorem dX3_seesTo_51 : decode cX3_seesTo 51 = .ok (.checkcast 136, 3) := by decide +kernel
theorem dX3_seesTo_54 : decode cX3_seesTo 54 = .ok (.astore 4, 2) := by decide +kernel
theorem dX3_seesTo_56 : decode cX3_seesTo 56 = .ok (.aload_n 0, 1) := by decide +kernel
theorem dX3_seesTo_57 : decode cX3_seesTo 57 = .ok (.getfield 49, 3) := by decide +kernel
theorem dX3_seesTo_60 : decode cX3_seesTo 60 = .ok (.iload_n 3, 1) := by decide +kernel
theorem dX3_seesTo_61 : decode cX3_seesTo 61 = .ok (.iconst 1, 1) := by decide +kernel
theorem dX3_seesTo_62 : decode cX3_seesTo 62 = .ok (.iastore, 1) := by decide +kernel
theorem dX3_seesTo_63 : decode cX3_seesTo 63 = .ok (.aload_n 0, 1) := by decide +kernel
theorem dX3_seesTo_64 : decode cX3_seesTo 64 = .ok (.iload_n 1, 1) := by decide +kernel
theorem dX3_seesTo_65 : decode cX3_seesTo 65 = .ok (.aload 4, 2) := by decide +kernel
theorem dX3_seesTo_67 : decode cX3_seesTo 67 = .ok (.invokevirtual 291, 3) := by decide +kernel
theorem dX3_seesTo_70 : decode cX3_seesTo 70 = .ok (.aload 4, 2) := by decide +kernel
theorem dX3_seesTo_72 : decode cX3_seesTo 72 = .ok (.getfield 295, 3) := by decide +kernel
theorem dX3_seesTo_75 : decode cX3_seesTo 75 = .ok (.ifCond .ge 5, 3) := by decide +kernel
theorem dX3_seesTo_78 : decode cX3_seesTo 78 = .ok (.iconst 1, 1) := by decide +kernel
theorem dX3_seesTo_79 : decode cX3_seesTo 79 = .ok (.ireturn, 1) := by decide +kernel
theorem dX3_seesTo_80 : decode cX3_seesTo 80 = .ok (.aload_n 0, 1) := by decide +kernel
theorem dX3_seesTo_81 : decode cX3_seesTo 81 = .ok (.getfield 188, 3) := by decide +kernel
theorem dX3_seesTo_84 : decode cX3_seesTo 84 = .ok (.bipush 12, 2) := by decide +kernel
theorem dX3_seesTo_86 : decode cX3_seesTo 86 = .ok (.if_icmp .lt 20, 3) := by decide +kernel
theorem dX3_seesTo_89 : decode cX3_seesTo 89 = .ok (.aload_n 0, 1) := by decide +kernel
theorem dX3_seesTo_90 : decode cX3_seesTo 90 = .ok (.getfield 49, 3) := by decide +kernel
theorem dX3_seesTo_93 : decode cX3_seesTo 93 = .ok (.iload_n 3, 1) := by decide +kernel
theorem dX3_seesTo_94 : decode cX3_seesTo 94 = .ok (.iconst 2, 1) := by decide +kernel
theorem dX3_seesTo_95 : decode cX3_seesTo 95 = .ok (.iastore, 1) := by decide +kernel
theorem dX3_seesTo_96 : decode cX3_seesTo 96 = .ok (.aload_n 0, 1) := by decide +kernel
theorem dX3_seesTo_97 : decode cX3_seesTo 97 = .ok (.bipush 8, 2) := by decide +kernel
theorem dX3_seesTo_99 : decode cX3_seesTo 99 = .ok (.iconst 1, 1) := by decide +kernel
theorem dX3_seesTo_100 : decode cX3_seesTo 100 = .ok (.invokevirtual 246, 3) := by decide +kernel
theorem dX3_seesTo_103 : decode cX3_seesTo 103 = .ok (.goto 18, 3) := by decide +kernel
theorem dX3_seesTo_106 : decode cX3_seesTo 106 = .ok (.aload_n 0, 1) := by decide +kernel
theorem dX3_seesTo_107 : decode cX3_seesTo 107 = .ok (.aload 4, 2) := by decide +kernel
theorem dX3_seesTo_109 : decode cX3_seesTo 109 = .ok (.getfield 295, 3) := by decide +kernel
theorem dX3_seesTo_112 : decode cX3_seesTo 112 = .ok (.aload_n 0, 1) := by decide +kernel
theorem dX3_seesTo_113 : decode cX3_seesTo 113 = .ok (.getfield 206, 3) := by decide +kernel
theorem dX3_seesTo_116 : decode cX3_seesTo 116 = .ok (.iload_n 1, 1) := by decide +kernel
theorem dX3_seesTo_117 : decode cX3_seesTo 117 = .ok (.iload_n 3, 1) := by decide +kernel
theorem dX3_seesTo_118 : decode cX3_seesTo 118 = .ok (.invokevirtual 191, 3) := by decide +kernel
theorem dX3_seesTo_121 : decode cX3_seesTo 121 = .ok (.iconst 0, 1) := by decide +kernel
theorem dX3_seesTo_122 : decode cX3_seesTo 122 = .ok (.ireturn, 1) := by decide +kernel
theorem dX3_setOut_0 : decode cX3_setOut 0 = .ok (.aload_n 2, 1) := by decide +kernel
theorem dX3_setOut_1 : decode cX3_setOut 1 = .ok (.getfield 298, 3) := by decide +kernel
theorem dX3_setOut_4 : decode cX3_setOut 4 = .ok (.istore_n 3, 1) := by decide +kernel
theorem dX3_setOut_5 : decode cX3_setOut 5 = .ok (.iload_n 3, 1) := by decide +kernel
theorem dX3_setOut_6 : decode cX3_setOut 6 = .ok (.aload_n 2, 1) := by decide +kernel
theorem dX3_setOut_7 : decode cX3_setOut 7 = .ok (.getfield 301, 3) := by decide +kernel
theorem dX3_setOut_10 : decode cX3_setOut 10 = .ok (.if_icmp .ge 91, 3) := by decide +kernel
theorem dX3_setOut_13 : decode cX3_setOut 13 = .ok (.aload_n 0, 1) := by decide +kernel
theorem dX3_setOut_14 : decode cX3_setOut 14 = .ok (.getfield 33, 3) := by decide +kernel
theorem dX3_setOut_17 : decode cX3_setOut 17 = .ok (.iload_n 1, 1) := by decide +kernel
theorem dX3_setOut_18 : decode cX3_setOut 18 = .ok (.aaload, 1) := by decide +kernel
theorem dX3_setOut_19 : decode cX3_setOut 19 = .ok (.getfield 79, 3) := by decide +kernel
theorem dX3_setOut_22 : decode cX3_setOut 22 = .ok (.iload_n 3, 1) := by decide +kernel
theorem dX3_setOut_23 : decode cX3_setOut 23 = .ok (.invokevirtual 89, 3) := by decide +kernel
theorem dX3_setOut_26 : decode cX3_setOut 26 = .ok (.checkcast 93, 3) := by decide +kernel
theorem dX3_setOut_29 : decode cX3_setOut 29 = .ok (.astore 4, 2) := by decide +kernel
theorem dX3_setOut_31 : decode cX3_setOut 31 = .ok (.iload_n 1, 1) := by decide +kernel
theorem dX3_setOut_32 : decode cX3_setOut 32 = .ok (.sipush 4800, 3) := by decide +kernel
theorem dX3_setOut_35 : decode cX3_setOut 35 = .ok (.imul, 1) := by decide +kernel
theorem dX3_setOut_36 : decode cX3_setOut 36 = .ok (.aload 4, 2) := by decide +kernel
theorem dX3_setOut_38 : decode cX3_setOut 38 = .ok (.getfield 98, 3) := by decide +kernel
theorem dX3_setOut_41 : decode cX3_setOut 41 = .ok (.iadd, 1) := by decide +kernel
theorem dX3_setOut_42 : decode cX3_setOut 42 = .ok (.istore 5, 2) := by decide +kernel
theorem dX3_setOut_44 : decode cX3_setOut 44 = .ok (.aload 4, 2) := by decide +kernel
theorem dX3_setOut_46 : decode cX3_setOut 46 = .ok (.getfield 95, 3) := by decide +kernel
theorem dX3_setOut_49 : decode cX3_setOut 49 = .ok (.iconst 1, 1) := by decide +kernel
theorem dX3_setOut_50 : decode cX3_setOut 50 = .ok (.if_icmp .ne 18, 3) := by decide +kernel
theorem dX3_setOut_53 : decode cX3_setOut 53 = .ok (.aload_n 0, 1) := by decide +kernel
theorem dX3_setOut_54 : decode cX3_setOut 54 = .ok (.getfield 46, 3) := by decide +kernel
theorem dX3_setOut_57 : decode cX3_setOut 57 = .ok (.iload 5, 2) := by decide +kernel
theorem dX3_setOut_59 : decode cX3_setOut 59 = .ok (.aload 4, 2) := by decide +kernel
theorem dX3_setOut_61 : decode cX3_setOut 61 = .ok (.getfield 101, 3) := by decide +kernel
theorem dX3_setOut_64 : decode cX3_setOut 64 = .ok (.iastore, 1) := by decide +kernel
theorem dX3_setOut_65 : decode cX3_setOut 65 = .ok (.goto 30, 3) := by decide +kernel
theorem dX3_setOut_68 : decode cX3_setOut 68 = .ok (.aload 4, 2) := by decide +kernel
theorem dX3_setOut_70 : decode cX3_setOut 70 = .ok (.getfield 95, 3) := by decide +kernel
theorem dX3_setOut_73 : decode cX3_setOut 73 = .ok (.iconst 3, 1) := by decide +kernel
theorem dX3_setOut_74 : decode cX3_setOut 74 = .ok (.if_icmp .ne 21, 3) := by decide +kernel
theorem dX3_setOut_77 : decode cX3_setOut 77 = .ok (.aload_n 0, 1) := by decide +kernel
theorem dX3_setOut_78 : decode cX3_setOut 78 = .ok (.getfield 46, 3) := by decide +kernel
theorem dX3_setOut_81 : decode cX3_setOut 81 = .ok (.iload 5, 2) := by decide +kernel
theorem dX3_setOut_83 : decode cX3_setOut 83 = .ok (.iload 5, 2) := by decide +kernel
theorem dX3_setOut_85 : decode cX3_setOut 85 = .ok (.aload 4, 2) := by decide +kernel
theorem dX3_setOut_87 : decode cX3_setOut 87 = .ok (.getfield 101, 3) := by decide +kernel
theorem dX3_setOut_90 : decode cX3_setOut 90 = .ok (.iadd, 1) := by decide +kernel
theorem dX3_setOut_91 : decode cX3_setOut 91 = .ok (.iconst 0, 1) := by decide +kernel
theorem dX3_setOut_92 : decode cX3_setOut 92 = .ok (.invokestatic 304, 3) := by decide +kernel
theorem dX3_setOut_95 : decode cX3_setOut 95 = .ok (.iinc 3 1, 3) := by decide +kernel
theorem dX3_setOut_98 : decode cX3_setOut 98 = .ok (.goto (-93), 3) := by decide +kernel
theorem dX3_setOut_101 : decode cX3_setOut 101 = .ok (.return_, 1) := by decide +kernel
theorem dX3_callFun_0 : decode cX3_callFun 0 = .ok (.iconst 0, 1) := by decide +kernel
theorem dX3_callFun_1 : decode cX3_callFun 1 = .ok (.aload_n 0, 1) := by decide +kernel
theorem dX3_callFun_2 : decode cX3_callFun 2 = .ok (.getfield 206, 3) := by decide +kernel
theorem dX3_callFun_5 : decode cX3_callFun 5 = .ok (.aload_n 3, 1) := by decide +kernel
theorem dX3_callFun_6 : decode cX3_callFun 6 = .ok (.getfield 101, 3) := by decide +kernel
theorem dX3_callFun_9 : decode cX3_callFun 9 = .ok (.isub, 1) := by decide +kernel
theorem dX3_callFun_10 : decode cX3_callFun 10 = .ok (.invokestatic 307, 3) := by decide +kernel
theorem dX3_callFun_13 : decode cX3_callFun 13 = .ok (.istore 4, 2) := by decide +kernel
theorem dX3_callFun_15 : decode cX3_callFun 15 = .ok (.aconst_null, 1) := by decide +kernel
theorem dX3_callFun_16 : decode cX3_callFun 16 = .ok (.astore 5, 2) := by decide +kernel
theorem dX3_callFun_18 : decode cX3_callFun 18 = .ok (.iconst 0, 1) := by decide +kernel
theorem dX3_callFun_19 : decode cX3_callFun 19 = .ok (.istore 6, 2) := by decide +kernel
theorem dX3_callFun_21 : decode cX3_callFun 21 = .ok (.iload 6, 2) := by decide +kernel
theorem dX3_callFun_23 : decode cX3_callFun 23 = .ok (.bipush 8, 2) := by decide +kernel
theorem dX3_callFun_25 : decode cX3_callFun 25 = .ok (.if_icmp .ge 46, 3) := by decide +kernel
theorem dX3_callFun_28 : decode cX3_callFun 28 = .ok (.aload_n 0, 1) := by decide +kernel
theorem dX3_callFun_29 : decode cX3_callFun 29 = .ok (.getfield 27, 3) := by decide +kernel
theorem dX3_callFun_32 : decode cX3_callFun 32 = .ok (.iload 6, 2) := by decide +kernel
theorem dX3_callFun_34 : decode cX3_callFun 34 = .ok (.aaload, 1) := by decide +kernel
theorem dX3_callFun_35 : decode cX3_callFun 35 = .ok (.aload_n 0, 1) := by decide +kernel
theorem dX3_callFun_36 : decode cX3_callFun 36 = .ok (.getfield 33, 3) := by decide +kernel
theorem dX3_callFun_39 : decode cX3_callFun 39 = .ok (.iload_n 1, 1) := by decide +kernel
theorem dX3_callFun_40 : decode cX3_callFun 40 = .ok (.aaload, 1) := by decide +kernel
theorem dX3_callFun_41 : decode cX3_callFun 41 = .ok (.getfield 313, 3) := by decide +kernel
theorem dX3_callFun_44 : decode cX3_callFun 44 = .ok (.iload_n 2, 1) := by decide +kernel
theorem dX3_callFun_45 : decode cX3_callFun 45 = .ok (.invokevirtual 316, 3) := by decide +kernel
theorem dX3_callFun_48 : decode cX3_callFun 48 = .ok (.ifCond .eq 13, 3) := by decide +kernel
theorem dX3_callFun_51 : decode cX3_callFun 51 = .ok (.aload_n 0, 1) := by decide +kernel
theorem dX3_callFun_52 : decode cX3_callFun 52 = .ok (.getfield 27, 3) := by decide +kernel
theorem dX3_callFun_55 : decode cX3_callFun 55 = .ok (.iload 6, 2) := by decide +kernel
theorem dX3_callFun_57 : decode cX3_callFun 57 = .ok (.aaload, 1) := by decide +kernel
theorem dX3_callFun_58 : decode cX3_callFun 58 = .ok (.goto 5, 3) := by decide +kernel
theorem dX3_callFun_61 : decode cX3_callFun 61 = .ok (.aload 5, 2) := by decide +kernel
theorem dX3_callFun_63 : decode cX3_callFun 63 = .ok (.astore 5, 2) := by decide +kernel
theorem dX3_callFun_65 : decode cX3_callFun 65 = .ok (.iinc 6 1, 3) := by decide +kernel
theorem dX3_callFun_68 : decode cX3_callFun 68 = .ok (.goto (-47), 3) := by decide +kernel
theorem dX3_callFun_71 : decode cX3_callFun 71 = .ok (.aload 5, 2) := by decide +kernel
theorem dX3_callFun_73 : decode cX3_callFun 73 = .ok (.ifnonnull 8, 3) := by decide +kernel
theorem dX3_callFun_76 : decode cX3_callFun 76 = .ok (.bipush (-2), 2) := by decide +kernel
theorem dX3_callFun_78 : decode cX3_callFun 78 = .ok (.goto 14, 3) := by decide +kernel
theorem dX3_callFun_81 : decode cX3_callFun 81 = .ok (.aload 5, 2) := by decide +kernel
theorem dX3_callFun_83 : decode cX3_callFun 83 = .ok (.aload_n 0, 1) := by decide +kernel
theorem dX3_callFun_84 : decode cX3_callFun 84 = .ok (.getfield 37, 3) := by decide +kernel
theorem dX3_callFun_87 : decode cX3_callFun 87 = .ok (.iload 4, 2) := by decide +kernel
theorem dX3_callFun_89 : decode cX3_callFun 89 = .ok (.invokevirtual 319, 3) := by decide +kernel
theorem dX3_callFun_92 : decode cX3_callFun 92 = .ok (.istore 6, 2) := by decide +kernel
theorem dX3_callFun_94 : decode cX3_callFun 94 = .ok (.aload 5, 2) := by decide +kernel
theorem dX3_callFun_96 : decode cX3_callFun 96 = .ok (.ifnull 23, 3) := by decide +kernel
theorem dX3_callFun_99 : decode cX3_callFun 99 = .ok (.aload_n 0, 1) := by decide +kernel
theorem dX3_callFun_100 : decode cX3_callFun 100 = .ok (.getfield 67, 3) := by decide +kernel
theorem dX3_callFun_103 : decode cX3_callFun 103 = .ok (.ifCond .eq 16, 3) := by decide +kernel
theorem dX3_callFun_106 : decode cX3_callFun 106 = .ok (.aload 5, 2) := by decide +kernel
theorem dX3_callFun_108 : decode cX3_callFun 108 = .ok (.aload_n 0, 1) := by decide +kernel
theorem dX3_callFun_109 : decode cX3_callFun 109 = .ok (.getfield 37, 3) := by decide +kernel
theorem dX3_callFun_112 : decode cX3_callFun 112 = .ok (.iload 4, 2) := by decide +kernel
theorem dX3_callFun_114 : decode cX3_callFun 114 = .ok (.iload 6, 2) := by decide +kernel
theorem dX3_callFun_116 : decode cX3_callFun 116 = .ok (.invokevirtual 323, 3) := by decide +kernel
theorem dX3_callFun_119 : decode cX3_callFun 119 = .ok (.iload 6, 2) := by decide +kernel
theorem dX3_callFun_121 : decode cX3_callFun 121 = .ok (.ifCond .lt 39, 3) := by decide +kernel
theorem dX3_callFun_124 : decode cX3_callFun 124 = .ok (.aload 5, 2) := by decide +kernel
theorem dX3_callFun_126 : decode cX3_callFun 126 = .ok (.getfield 327, 3) := by decide +kernel
theorem dX3_callFun_129 : decode cX3_callFun 129 = .ok (.iload 6, 2) := by decide +kernel
theorem dX3_callFun_131 : decode cX3_callFun 131 = .ok (.iconst 4, 1) := by decide +kernel
theorem dX3_callFun_132 : decode cX3_callFun 132 = .ok (.imul, 1) := by decide +kernel
theorem dX3_callFun_133 : decode cX3_callFun 133 = .ok (.iconst 2, 1) := by decide +kernel
theorem dX3_callFun_134 : decode cX3_callFun 134 = .ok (.iadd, 1) := by decide +kernel
theorem dX3_callFun_135 : decode cX3_callFun 135 = .ok (.iaload, 1) := by decide +kernel
theorem dX3_callFun_136 : decode cX3_callFun 136 = .ok (.iconst 1, 1) := by decide +kernel
theorem dX3_callFun_137 : decode cX3_callFun 137 = .ok (.if_icmp .ne 23, 3) := by decide +kernel
theorem dX3_callFun_140 : decode cX3_callFun 140 = .ok (.aload_n 0, 1) := by decide +kernel
theorem dX3_callFun_141 : decode cX3_callFun 141 = .ok (.aload 5, 2) := by decide +kernel
theorem dX3_callFun_143 : decode cX3_callFun 143 = .ok (.getfield 327, 3) := by decide +kernel
theorem dX3_callFun_146 : decode cX3_callFun 146 = .ok (.iload 6, 2) := by decide +kernel
theorem dX3_callFun_148 : decode cX3_callFun 148 = .ok (.iconst 4, 1) := by decide +kernel
theorem dX3_callFun_149 : decode cX3_callFun 149 = .ok (.imul, 1) := by decide +kernel
theorem dX3_callFun_150 : decode cX3_callFun 150 = .ok (.iconst 3, 1) := by decide +kernel
theorem dX3_callFun_151 : decode cX3_callFun 151 = .ok (.iadd, 1) := by decide +kernel
theorem dX3_callFun_152 : decode cX3_callFun 152 = .ok (.iaload, 1) := by decide +kernel
theorem dX3_callFun_153 : decode cX3_callFun 153 = .ok (.iconst 1, 1) := by decide +kernel
theorem dX3_callFun_154 : decode cX3_callFun 154 = .ok (.invokevirtual 246, 3) := by decide +kernel
theorem dX3_callFun_157 : decode cX3_callFun 157 = .ok (.goto 82, 3) := by decide +kernel
theorem dX3_callFun_160 : decode cX3_callFun 160 = .ok (.iload 6, 2) := by decide +kernel
theorem dX3_callFun_162 : decode cX3_callFun 162 = .ok (.ifCond .lt 45, 3) := by decide +kernel
theorem dX3_callFun_165 : decode cX3_callFun 165 = .ok (.aload_n 0, 1) := by decide +kernel
theorem dX3_callFun_166 : decode cX3_callFun 166 = .ok (.iload 4, 2) := by decide +kernel
theorem dX3_callFun_168 : decode cX3_callFun 168 = .ok (.putfield 206, 3) := by decide +kernel
theorem dX3_callFun_171 : decode cX3_callFun 171 = .ok (.aload_n 0, 1) := by decide +kernel
theorem dX3_callFun_172 : decode cX3_callFun 172 = .ok (.aload 5, 2) := by decide +kernel
theorem dX3_callFun_174 : decode cX3_callFun 174 = .ok (.getfield 327, 3) := by decide +kernel
theorem dX3_callFun_177 : decode cX3_callFun 177 = .ok (.iload 6, 2) := by decide +kernel
theorem dX3_callFun_179 : decode cX3_callFun 179 = .ok (.iconst 4, 1) := by decide +kernel
theorem dX3_callFun_180 : decode cX3_callFun 180 = .ok (.imul, 1) := by decide +kernel
theorem dX3_callFun_181 : decode cX3_callFun 181 = .ok (.iconst 3, 1) := by decide +kernel
theorem dX3_callFun_182 : decode cX3_callFun 182 = .ok (.iadd, 1) := by decide +kernel
theorem dX3_callFun_183 : decode cX3_callFun 183 = .ok (.iaload, 1) := by decide +kernel
theorem dX3_callFun_184 : decode cX3_callFun 184 = .ok (.invokevirtual 255, 3) := by decide +kernel
theorem dX3_callFun_187 : decode cX3_callFun 187 = .ok (.aload_n 0, 1) := by decide +kernel
theorem dX3_callFun_188 : decode cX3_callFun 188 = .ok (.getfield 43, 3) := by decide +kernel
theorem dX3_callFun_191 : decode cX3_callFun 191 = .ok (.aload_n 0, 1) := by decide +kernel
theorem dX3_callFun_192 : decode cX3_callFun 192 = .ok (.getfield 188, 3) := by decide +kernel
theorem dX3_callFun_195 : decode cX3_callFun 195 = .ok (.iconst 1, 1) := by decide +kernel
theorem dX3_callFun_196 : decode cX3_callFun 196 = .ok (.isub, 1) := by decide +kernel
theorem dX3_callFun_197 : decode cX3_callFun 197 = .ok (.aaload, 1) := by decide +kernel
theorem dX3_callFun_198 : decode cX3_callFun 198 = .ok (.iconst 0, 1) := by decide +kernel
theorem dX3_callFun_199 : decode cX3_callFun 199 = .ok (.dup2, 1) := by decide +kernel
theorem dX3_callFun_200 : decode cX3_callFun 200 = .ok (.iaload, 1) := by decide +kernel
theorem dX3_callFun_201 : decode cX3_callFun 201 = .ok (.iconst 1, 1) := by decide +kernel
theorem dX3_callFun_202 : decode cX3_callFun 202 = .ok (.iadd, 1) := by decide +kernel
theorem dX3_callFun_203 : decode cX3_callFun 203 = .ok (.iastore, 1) := by decide +kernel
theorem dX3_callFun_204 : decode cX3_callFun 204 = .ok (.goto 35, 3) := by decide +kernel
theorem dX3_callFun_207 : decode cX3_callFun 207 = .ok (.aload_n 0, 1) := by decide +kernel
theorem dX3_callFun_208 : decode cX3_callFun 208 = .ok (.getfield 188, 3) := by decide +kernel
theorem dX3_callFun_211 : decode cX3_callFun 211 = .ok (.bipush 12, 2) := by decide +kernel
theorem dX3_callFun_213 : decode cX3_callFun 213 = .ok (.if_icmp .lt 13, 3) := by decide +kernel
theorem dX3_callFun_216 : decode cX3_callFun 216 = .ok (.aload_n 0, 1) := by decide +kernel
theorem dX3_callFun_217 : decode cX3_callFun 217 = .ok (.bipush 7, 2) := by decide +kernel
theorem dX3_callFun_219 : decode cX3_callFun 219 = .ok (.iconst 2, 1) := by decide +kernel
theorem dX3_callFun_220 : decode cX3_callFun 220 = .ok (.invokevirtual 246, 3) := by decide +kernel
theorem dX3_callFun_223 : decode cX3_callFun 223 = .ok (.goto 16, 3) := by decide +kernel
theorem dX3_callFun_226 : decode cX3_callFun 226 = .ok (.aload_n 0, 1) := by decide +kernel
theorem dX3_callFun_227 : decode cX3_callFun 227 = .ok (.aload_n 3, 1) := by decide +kernel
theorem dX3_callFun_228 : decode cX3_callFun 228 = .ok (.getfield 148, 3) := by decide +kernel
theorem dX3_callFun_231 : decode cX3_callFun 231 = .ok (.iload 4, 2) := by decide +kernel
theorem dX3_callFun_233 : decode cX3_callFun 233 = .ok (.iload_n 1, 1) := by decide +kernel
theorem dX3_callFun_234 : decode cX3_callFun 234 = .ok (.bipush (-2), 2) := by decide +kernel
theorem dX3_callFun_236 : decode cX3_callFun 236 = .ok (.invokevirtual 191, 3) := by decide +kernel
theorem dX3_callFun_239 : decode cX3_callFun 239 = .ok (.return_, 1) := by decide +kernel
theorem dX4_init_0 : decode cX4_init 0 = .ok (.aload_n 0, 1) := by decide +kernel
theorem dX4_init_1 : decode cX4_init 1 = .ok (.invokespecial 1, 3) := by decide +kernel
theorem dX4_init_4 : decode cX4_init 4 = .ok (.return_, 1) := by decide +kernel
theorem dX4_tell_0 : decode cX4_tell 0 = .ok (.aload_n 0, 1) := by decide +kernel
theorem dX4_tell_1 : decode cX4_tell 1 = .ok (.iload_n 1, 1) := by decide +kernel
theorem dX4_tell_2 : decode cX4_tell 2 = .ok (.putfield 7, 3) := by decide +kernel
theorem dX4_tell_5 : decode cX4_tell 5 = .ok (.aload_n 0, 1) := by decide +kernel
theorem dX4_tell_6 : decode cX4_tell 6 = .ok (.iload_n 2, 1) := by decide +kernel
theorem dX4_tell_7 : decode cX4_tell 7 = .ok (.putfield 13, 3) := by decide +kernel
theorem dX4_tell_10 : decode cX4_tell 10 = .ok (.aload_n 0, 1) := by decide +kernel
theorem dX4_tell_11 : decode cX4_tell 11 = .ok (.iload_n 3, 1) := by decide +kernel
theorem dX4_tell_12 : decode cX4_tell 12 = .ok (.putfield 16, 3) := by decide +kernel
theorem dX4_tell_15 : decode cX4_tell 15 = .ok (.return_, 1) := by decide +kernel
theorem dX4_copy_0 : decode cX4_copy 0 = .ok (.aload_n 0, 1) := by decide +kernel
theorem dX4_copy_1 : decode cX4_copy 1 = .ok (.aload_n 1, 1) := by decide +kernel
theorem dX4_copy_2 : decode cX4_copy 2 = .ok (.getfield 7, 3) := by decide +kernel
theorem dX4_copy_5 : decode cX4_copy 5 = .ok (.aload_n 1, 1) := by decide +kernel
theorem dX4_copy_6 : decode cX4_copy 6 = .ok (.getfield 13, 3) := by decide +kernel
theorem dX4_copy_9 : decode cX4_copy 9 = .ok (.aload_n 1, 1) := by decide +kernel
theorem dX4_copy_10 : decode cX4_copy 10 = .ok (.getfield 16, 3) := by decide +kernel
theorem dX4_copy_13 : decode cX4_copy 13 = .ok (.invokevirtual 19, 3) := by decide +kernel
theorem dX4_copy_16 : decode cX4_copy 16 = .ok (.aload_n 0, 1) := by decide +kernel
theorem dX4_copy_17 : decode cX4_copy 17 = .ok (.aload_n 1, 1) := by decide +kernel
theorem dX4_copy_18 : decode cX4_copy 18 = .ok (.getfield 23, 3) := by decide +kernel
theorem dX4_copy_21 : decode cX4_copy 21 = .ok (.putfield 23, 3) := by decide +kernel
theorem dX4_copy_24 : decode cX4_copy 24 = .ok (.aload_n 0, 1) := by decide +kernel
theorem dX4_copy_25 : decode cX4_copy 25 = .ok (.aload_n 1, 1) := by decide +kernel
theorem dX4_copy_26 : decode cX4_copy 26 = .ok (.getfield 26, 3) := by decide +kernel
theorem dX4_copy_29 : decode cX4_copy 29 = .ok (.putfield 26, 3) := by decide +kernel
theorem dX4_copy_32 : decode cX4_copy 32 = .ok (.return_, 1) := by decide +kernel
theorem dX5_init_0 : decode cX5_init 0 = .ok (.aload_n 0, 1) := by decide +kernel
theorem dX5_init_1 : decode cX5_init 1 = .ok (.invokespecial 3, 3) := by decide +kernel
theorem dX5_init_4 : decode cX5_init 4 = .ok (.aload_n 0, 1) := by decide +kernel
theorem dX5_init_5 : decode cX5_init 5 = .ok (.bipush (-2), 2) := by decide +kernel
theorem dX5_init_7 : decode cX5_init 7 = .ok (.putfield 9, 3) := by decide +kernel
theorem dX5_init_10 : decode cX5_init 10 = .ok (.aload_n 0, 1) := by decide +kernel
theorem dX5_init_11 : decode cX5_init 11 = .ok (.iload_n 2, 1) := by decide +kernel
theorem dX5_init_12 : decode cX5_init 12 = .ok (.putfield 15, 3) := by decide +kernel
theorem dX5_init_15 : decode cX5_init 15 = .ok (.aload_n 0, 1) := by decide +kernel
theorem dX5_init_16 : decode cX5_init 16 = .ok (.aload_n 1, 1) := by decide +kernel
theorem dX5_init_17 : decode cX5_init 17 = .ok (.getfield 18, 3) := by decide +kernel
theorem dX5_init_20 : decode cX5_init 20 = .ok (.putfield 24, 3) := by decide +kernel
theorem dX5_init_23 : decode cX5_init 23 = .ok (.aload_n 0, 1) := by decide +kernel
theorem dX5_init_24 : decode cX5_init 24 = .ok (.aload_n 1, 1) := by decide +kernel
theorem dX5_init_25 : decode cX5_init 25 = .ok (.getfield 25, 3) := by decide +kernel
theorem dX5_init_28 : decode cX5_init 28 = .ok (.putfield 28, 3) := by decide +kernel
theorem dX5_init_31 : decode cX5_init 31 = .ok (.aload_n 0, 1) := by decide +kernel
theorem dX5_init_32 : decode cX5_init 32 = .ok (.aload_n 1, 1) := by decide +kernel
theorem dX5_init_33 : decode cX5_init 33 = .ok (.getfield 29, 3) := by decide +kernel
theorem dX5_init_36 : decode cX5_init 36 = .ok (.putfield 32, 3) := by decide +kernel
theorem dX5_init_39 : decode cX5_init 39 = .ok (.aload_n 0, 1) := by decide +kernel
theorem dX5_init_40 : decode cX5_init 40 = .ok (.aload_n 1, 1) := by decide +kernel
theorem dX5_init_41 : decode cX5_init 41 = .ok (.getfield 33, 3) := by decide +kernel
theorem dX5_init_44 : decode cX5_init 44 = .ok (.putfield 36, 3) := by decide +kernel
theorem dX5_init_47 : decode cX5_init 47 = .ok (.aload_n 0, 1) := by decide +kernel
theorem dX5_init_48 : decode cX5_init 48 = .ok (.aload_n 1, 1) := by decide +kernel
theorem dX5_init_49 : decode cX5_init 49 = .ok (.getfield 37, 3) := by decide +kernel
theorem dX5_init_52 : decode cX5_init 52 = .ok (.putfield 40, 3) := by decide +kernel
theorem dX5_init_55 : decode cX5_init 55 = .ok (.aload_n 0, 1) := by decide +kernel
theorem dX5_init_56 : decode cX5_init 56 = .ok (.aload_n 1, 1) := by decide +kernel
theorem dX5_init_57 : decode cX5_init 57 = .ok (.getfield 41, 3) := by decide +kernel
theorem dX5_init_60 : decode cX5_init 60 = .ok (.aload_n 0, 1) := by decide +kernel
theorem dX5_init_61 : decode cX5_init 61 = .ok (.getfield 40, 3) := by decide +kernel
theorem dX5_init_64 : decode cX5_init 64 = .ok (.invokestatic 45, 3) := by decide +kernel
theorem dX5_init_67 : decode cX5_init 67 = .ok (.putfield 51, 3) := by decide +kernel
theorem dX5_init_70 : decode cX5_init 70 = .ok (.aload_n 0, 1) := by decide +kernel
theorem dX5_init_71 : decode cX5_init 71 = .ok (.aload_n 1, 1) := by decide +kernel
theorem dX5_init_72 : decode cX5_init 72 = .ok (.getfield 52, 3) := by decide +kernel
theorem dX5_init_75 : decode cX5_init 75 = .ok (.aload_n 0, 1) := by decide +kernel
theorem dX5_init_76 : decode cX5_init 76 = .ok (.getfield 40, 3) := by decide +kernel
theorem dX5_init_79 : decode cX5_init 79 = .ok (.invokestatic 45, 3) := by decide +kernel
theorem dX5_init_82 : decode cX5_init 82 = .ok (.putfield 55, 3) := by decide +kernel
theorem dX5_init_85 : decode cX5_init 85 = .ok (.aload_n 0, 1) := by decide +kernel
theorem dX5_init_86 : decode cX5_init 86 = .ok (.aload_n 1, 1) := by decide +kernel
theorem dX5_init_87 : decode cX5_init 87 = .ok (.getfield 56, 3) := by decide +kernel
theorem dX5_init_90 : decode cX5_init 90 = .ok (.aload_n 0, 1) := by decide +kernel
theorem dX5_init_91 : decode cX5_init 91 = .ok (.getfield 40, 3) := by decide +kernel
theorem dX5_init_94 : decode cX5_init 94 = .ok (.invokestatic 45, 3) := by decide +kernel
theorem dX5_init_97 : decode cX5_init 97 = .ok (.putfield 59, 3) := by decide +kernel
theorem dX5_init_100 : decode cX5_init 100 = .ok (.aload_n 0, 1) := by decide +kernel
theorem dX5_init_101 : decode cX5_init 101 = .ok (.aload_n 1, 1) := by decide +kernel
theorem dX5_init_102 : decode cX5_init 102 = .ok (.invokestatic 60, 3) := by decide +kernel
theorem dX5_init_105 : decode cX5_init 105 = .ok (.putfield 64, 3) := by decide +kernel
theorem dX5_init_108 : decode cX5_init 108 = .ok (.aload_n 0, 1) := by decide +kernel
theorem dX5_init_109 : decode cX5_init 109 = .ok (.aload_n 0, 1) := by decide +kernel
theorem dX5_init_110 : decode cX5_init 110 = .ok (.getfield 32, 3) := by decide +kernel
theorem dX5_init_113 : decode cX5_init 113 = .ok (.invokevirtual 67, 3) := by decide +kernel
theorem dX5_init_116 : decode cX5_init 116 = .ok (.newarray .int, 2) := by decide +kernel
theorem dX5_init_118 : decode cX5_init 118 = .ok (.putfield 72, 3) := by decide +kernel
theorem dX5_init_121 : decode cX5_init 121 = .ok (.iconst 0, 1) := by decide +kernel
theorem dX5_init_122 : decode cX5_init 122 = .ok (.istore_n 3, 1) := by decide +kernel
theorem dX5_init_123 : decode cX5_init 123 = .ok (.iload_n 3, 1) := by decide +kernel
theorem dX5_init_124 : decode cX5_init 124 = .ok (.aload_n 0, 1) := by decide +kernel
theorem dX5_init_125 : decode cX5_init 125 = .ok (.getfield 72, 3) := by decide +kernel
theorem dX5_init_128 : decode cX5_init 128 = .ok (.arraylength, 1) := by decide +kernel
theorem dX5_init_129 : decode cX5_init 129 = .ok (.if_icmp .ge 16, 3) := by decide +kernel
theorem dX5_init_132 : decode cX5_init 132 = .ok (.aload_n 0, 1) := by decide +kernel
theorem dX5_init_133 : decode cX5_init 133 = .ok (.getfield 72, 3) := by decide +kernel
theorem dX5_init_136 : decode cX5_init 136 = .ok (.iload_n 3, 1) := by decide +kernel
theorem dX5_init_137 : decode cX5_init 137 = .ok (.iload_n 3, 1) := by decide +kernel
theorem dX5_init_138 : decode cX5_init 138 = .ok (.iastore, 1) := by decide +kernel
theorem dX5_init_139 : decode cX5_init 139 = .ok (.iinc 3 1, 3) := by decide +kernel
theorem dX5_init_142 : decode cX5_init 142 = .ok (.goto (-19), 3) := by decide +kernel
theorem dX5_init_145 : decode cX5_init 145 = .ok (.aload_n 0, 1) := by decide +kernel
theorem dX5_init_146 : decode cX5_init 146 = .ok (.iconst 4, 1) := by decide +kernel
theorem dX5_init_147 : decode cX5_init 147 = .ok (.aload_n 0, 1) := by decide +kernel
theorem dX5_init_148 : decode cX5_init 148 = .ok (.getfield 72, 3) := by decide +kernel
theorem dX5_init_151 : decode cX5_init 151 = .ok (.arraylength, 1) := by decide +kernel
theorem dX5_init_152 : decode cX5_init 152 = .ok (.multianewarray 75 2, 4) := by decide +kernel
theorem dX5_init_156 : decode cX5_init 156 = .ok (.putfield 77, 3) := by decide +kernel
theorem dX5_init_159 : decode cX5_init 159 = .ok (.aload_n 0, 1) := by decide +kernel
theorem dX5_init_160 : decode cX5_init 160 = .ok (.iconst 3, 1) := by decide +kernel
theorem dX5_init_161 : decode cX5_init 161 = .ok (.aload_n 0, 1) := by decide +kernel
theorem dX5_init_162 : decode cX5_init 162 = .ok (.getfield 40, 3) := by decide +kernel
theorem dX5_init_165 : decode cX5_init 165 = .ok (.multianewarray 75 2, 4) := by decide +kernel
theorem dX5_init_169 : decode cX5_init 169 = .ok (.putfield 80, 3) := by decide +kernel
theorem dX5_init_172 : decode cX5_init 172 = .ok (.aload_n 0, 1) := by decide +kernel
theorem dX5_init_173 : decode cX5_init 173 = .ok (.aload_n 0, 1) := by decide +kernel
theorem dX5_init_174 : decode cX5_init 174 = .ok (.getfield 64, 3) := by decide +kernel
theorem dX5_init_177 : decode cX5_init 177 = .ok (.arraylength, 1) := by decide +kernel
theorem dX5_init_178 : decode cX5_init 178 = .ok (.newarray .int, 2) := by decide +kernel
theorem dX5_init_180 : decode cX5_init 180 = .ok (.putfield 83, 3) := by decide +kernel
theorem dX5_init_183 : decode cX5_init 183 = .ok (.aload_n 0, 1) := by decide +kernel
theorem dX5_init_184 : decode cX5_init 184 = .ok (.aload_n 0, 1) := by decide +kernel
theorem dX5_init_185 : decode cX5_init 185 = .ok (.getfield 64, 3) := by decide +kernel
theorem dX5_init_188 : decode cX5_init 188 = .ok (.arraylength, 1) := by decide +kernel
theorem dX5_init_189 : decode cX5_init 189 = .ok (.newarray .int, 2) := by decide +kernel
theorem dX5_init_191 : decode cX5_init 191 = .ok (.putfield 86, 3) := by decide +kernel
theorem dX5_init_194 : decode cX5_init 194 = .ok (.aload_n 0, 1) := by decide +kernel
theorem dX5_init_195 : decode cX5_init 195 = .ok (.getfield 28, 3) := by decide +kernel
theorem dX5_init_198 : decode cX5_init 198 = .ok (.invokestatic 89, 3) := by decide +kernel
theorem dX5_init_201 : decode cX5_init 201 = .ok (.return_, 1) := by decide +kernel
theorem dX5_mutantsOf_0 : decode cX5_mutantsOf 0 = .ok (.aload_n 0, 1) := by decide +kernel
theorem dX5_mutantsOf_1 : decode cX5_mutantsOf 1 = .ok (.getfield 37, 3) := by decide +kernel
theorem dX5_mutantsOf_4 : decode cX5_mutantsOf 4 = .ok (.newarray .int, 2) := by decide +kernel
theorem dX5_mutantsOf_6 : decode cX5_mutantsOf 6 = .ok (.astore_n 1, 1) := by decide +kernel
theorem dX5_mutantsOf_7 : decode cX5_mutantsOf 7 = .ok (.iconst 0, 1) := by decide +kernel
theorem dX5_mutantsOf_8 : decode cX5_mutantsOf 8 = .ok (.istore_n 2, 1) := by decide +kernel
theorem dX5_mutantsOf_9 : decode cX5_mutantsOf 9 = .ok (.iconst 0, 1) := by decide +kernel
theorem dX5_mutantsOf_10 : decode cX5_mutantsOf 10 = .ok (.istore_n 3, 1) := by decide +kernel
theorem dX5_mutantsOf_11 : decode cX5_mutantsOf 11 = .ok (.iload_n 3, 1) := by decide +kernel
theorem dX5_mutantsOf_12 : decode cX5_mutantsOf 12 = .ok (.aload_n 0, 1) := by decide +kernel
theorem dX5_mutantsOf_13 : decode cX5_mutantsOf 13 = .ok (.getfield 37, 3) := by decide +kernel
theorem dX5_mutantsOf_16 : decode cX5_mutantsOf 16 = .ok (.if_icmp .ge 51, 3) := by decide +kernel
theorem dX5_mutantsOf_19 : decode cX5_mutantsOf 19 = .ok (.aload_n 0, 1) := by decide +kernel
theorem dX5_mutantsOf_20 : decode cX5_mutantsOf 20 = .ok (.getfield 41, 3) := by decide +kernel
theorem dX5_mutantsOf_23 : decode cX5_mutantsOf 23 = .ok (.iload_n 3, 1) := by decide +kernel
theorem dX5_mutantsOf_24 : decode cX5_mutantsOf 24 = .ok (.iaload, 1) := by decide +kernel
theorem dX5_mutantsOf_25 : decode cX5_mutantsOf 25 = .ok (.istore 4, 2) := by decide +kernel
theorem dX5_mutantsOf_27 : decode cX5_mutantsOf 27 = .ok (.aload_n 0, 1) := by decide +kernel
theorem dX5_mutantsOf_28 : decode cX5_mutantsOf 28 = .ok (.getfield 93, 3) := by decide +kernel
theorem dX5_mutantsOf_31 : decode cX5_mutantsOf 31 = .ok (.iload_n 3, 1) := by decide +kernel
theorem dX5_mutantsOf_32 : decode cX5_mutantsOf 32 = .ok (.baload, 1) := by decide +kernel
theorem dX5_mutantsOf_33 : decode cX5_mutantsOf 33 = .ok (.ifCond .eq 28, 3) := by decide +kernel
theorem dX5_mutantsOf_36 : decode cX5_mutantsOf 36 = .ok (.iload 4, 2) := by decide +kernel
theorem dX5_mutantsOf_38 : decode cX5_mutantsOf 38 = .ok (.getstatic 97, 3) := by decide +kernel
theorem dX5_mutantsOf_41 : decode cX5_mutantsOf 41 = .ok (.arraylength, 1) := by decide +kernel
theorem dX5_mutantsOf_42 : decode cX5_mutantsOf 42 = .ok (.if_icmp .ge 19, 3) := by decide +kernel
theorem dX5_mutantsOf_45 : decode cX5_mutantsOf 45 = .ok (.getstatic 97, 3) := by decide +kernel
theorem dX5_mutantsOf_48 : decode cX5_mutantsOf 48 = .ok (.iload 4, 2) := by decide +kernel
theorem dX5_mutantsOf_50 : decode cX5_mutantsOf 50 = .ok (.iaload, 1) := by decide +kernel
theorem dX5_mutantsOf_51 : decode cX5_mutantsOf 51 = .ok (.ifCond .lt 10, 3) := by decide +kernel
theorem dX5_mutantsOf_54 : decode cX5_mutantsOf 54 = .ok (.aload_n 1, 1) := by decide +kernel
theorem dX5_mutantsOf_55 : decode cX5_mutantsOf 55 = .ok (.iload_n 2, 1) := by decide +kernel
theorem dX5_mutantsOf_56 : decode cX5_mutantsOf 56 = .ok (.iload_n 3, 1) := by decide +kernel
theorem dX5_mutantsOf_57 : decode cX5_mutantsOf 57 = .ok (.iastore, 1) := by decide +kernel
theorem dX5_mutantsOf_58 : decode cX5_mutantsOf 58 = .ok (.iinc 2 1, 3) := by decide +kernel
theorem dX5_mutantsOf_61 : decode cX5_mutantsOf 61 = .ok (.iinc 3 1, 3) := by decide +kernel
theorem dX5_mutantsOf_64 : decode cX5_mutantsOf 64 = .ok (.goto (-53), 3) := by decide +kernel
theorem dX5_mutantsOf_67 : decode cX5_mutantsOf 67 = .ok (.aload_n 1, 1) := by decide +kernel
theorem dX5_mutantsOf_68 : decode cX5_mutantsOf 68 = .ok (.iload_n 2, 1) := by decide +kernel
theorem dX5_mutantsOf_69 : decode cX5_mutantsOf 69 = .ok (.invokestatic 45, 3) := by decide +kernel
theorem dX5_mutantsOf_72 : decode cX5_mutantsOf 72 = .ok (.areturn, 1) := by decide +kernel
theorem dX5_shareCells_0 : decode cX5_shareCells 0 = .ok (.iconst 0, 1) := by decide +kernel
theorem dX5_shareCells_1 : decode cX5_shareCells 1 = .ok (.istore_n 1, 1) := by decide +kernel
theorem dX5_shareCells_2 : decode cX5_shareCells 2 = .ok (.iconst 0, 1) := by decide +kernel
theorem dX5_shareCells_3 : decode cX5_shareCells 3 = .ok (.istore_n 2, 1) := by decide +kernel
theorem dX5_shareCells_4 : decode cX5_shareCells 4 = .ok (.iload_n 2, 1) := by decide +kernel
theorem dX5_shareCells_5 : decode cX5_shareCells 5 = .ok (.aload_n 0, 1) := by decide +kernel
theorem dX5_shareCells_6 : decode cX5_shareCells 6 = .ok (.invokevirtual 67, 3) := by decide +kernel
theorem dX5_shareCells_9 : decode cX5_shareCells 9 = .ok (.if_icmp .ge 42, 3) := by decide +kernel
theorem dX5_shareCells_12 : decode cX5_shareCells 12 = .ok (.aload_n 0, 1) := by decide +kernel
theorem dX5_shareCells_13 : decode cX5_shareCells 13 = .ok (.iload_n 2, 1) := by decide +kernel
theorem dX5_shareCells_14 : decode cX5_shareCells 14 = .ok (.invokevirtual 100, 3) := by decide +kernel
theorem dX5_shareCells_17 : decode cX5_shareCells 17 = .ok (.checkcast 104, 3) := by decide +kernel
theorem dX5_shareCells_20 : decode cX5_shareCells 20 = .ok (.astore_n 3, 1) := by decide +kernel
theorem dX5_shareCells_21 : decode cX5_shareCells 21 = .ok (.aload_n 3, 1) := by decide +kernel
theorem dX5_shareCells_22 : decode cX5_shareCells 22 = .ok (.iload_n 1, 1) := by decide +kernel
theorem dX5_shareCells_23 : decode cX5_shareCells 23 = .ok (.putfield 106, 3) := by decide +kernel
theorem dX5_shareCells_26 : decode cX5_shareCells 26 = .ok (.iload_n 1, 1) := by decide +kernel
theorem dX5_shareCells_27 : decode cX5_shareCells 27 = .ok (.aload_n 3, 1) := by decide +kernel
theorem dX5_shareCells_28 : decode cX5_shareCells 28 = .ok (.getfield 109, 3) := by decide +kernel
theorem dX5_shareCells_31 : decode cX5_shareCells 31 = .ok (.iconst 3, 1) := by decide +kernel
theorem dX5_shareCells_32 : decode cX5_shareCells 32 = .ok (.if_icmp .ne 10, 3) := by decide +kernel
theorem dX5_shareCells_35 : decode cX5_shareCells 35 = .ok (.aload_n 3, 1) := by decide +kernel
theorem dX5_shareCells_36 : decode cX5_shareCells 36 = .ok (.getfield 112, 3) := by decide +kernel
theorem dX5_shareCells_39 : decode cX5_shareCells 39 = .ok (.goto 4, 3) := by decide +kernel
theorem dX5_shareCells_42 : decode cX5_shareCells 42 = .ok (.iconst 1, 1) := by decide +kernel
theorem dX5_shareCells_43 : decode cX5_shareCells 43 = .ok (.iadd, 1) := by decide +kernel
theorem dX5_shareCells_44 : decode cX5_shareCells 44 = .ok (.istore_n 1, 1) := by decide +kernel
theorem dX5_shareCells_45 : decode cX5_shareCells 45 = .ok (.iinc 2 1, 3) := by decide +kernel
theorem dX5_shareCells_48 : decode cX5_shareCells 48 = .ok (.goto (-44), 3) := by decide +kernel
theorem dX5_shareCells_51 : decode cX5_shareCells 51 = .ok (.return_, 1) := by decide +kernel
theorem dX5_unitOfCode_0 : decode cX5_unitOfCode 0 = .ok (.iconst 0, 1) := by decide +kernel
theorem dX5_unitOfCode_1 : decode cX5_unitOfCode 1 = .ok (.istore_n 2, 1) := by decide +kernel
theorem dX5_unitOfCode_2 : decode cX5_unitOfCode 2 = .ok (.iload_n 2, 1) := by decide +kernel
theorem dX5_unitOfCode_3 : decode cX5_unitOfCode 3 = .ok (.aload_n 0, 1) := by decide +kernel
theorem dX5_unitOfCode_4 : decode cX5_unitOfCode 4 = .ok (.getfield 24, 3) := by decide +kernel
theorem dX5_unitOfCode_7 : decode cX5_unitOfCode 7 = .ok (.invokevirtual 67, 3) := by decide +kernel
theorem dX5_unitOfCode_10 : decode cX5_unitOfCode 10 = .ok (.if_icmp .ge 47, 3) := by decide +kernel
theorem dX5_unitOfCode_13 : decode cX5_unitOfCode 13 = .ok (.iload_n 1, 1) := by decide +kernel
theorem dX5_unitOfCode_14 : decode cX5_unitOfCode 14 = .ok (.aload_n 0, 1) := by decide +kernel
theorem dX5_unitOfCode_15 : decode cX5_unitOfCode 15 = .ok (.getfield 24, 3) := by decide +kernel
theorem dX5_unitOfCode_18 : decode cX5_unitOfCode 18 = .ok (.iload_n 2, 1) := by decide +kernel
theorem dX5_unitOfCode_19 : decode cX5_unitOfCode 19 = .ok (.invokevirtual 100, 3) := by decide +kernel
theorem dX5_unitOfCode_22 : decode cX5_unitOfCode 22 = .ok (.checkcast 115, 3) := by decide +kernel
theorem dX5_unitOfCode_25 : decode cX5_unitOfCode 25 = .ok (.getfield 117, 3) := by decide +kernel
theorem dX5_unitOfCode_28 : decode cX5_unitOfCode 28 = .ok (.if_icmp .lt 23, 3) := by decide +kernel
theorem dX5_unitOfCode_31 : decode cX5_unitOfCode 31 = .ok (.iload_n 1, 1) := by decide +kernel
theorem dX5_unitOfCode_32 : decode cX5_unitOfCode 32 = .ok (.aload_n 0, 1) := by decide +kernel
theorem dX5_unitOfCode_33 : decode cX5_unitOfCode 33 = .ok (.getfield 24, 3) := by decide +kernel
theorem dX5_unitOfCode_36 : decode cX5_unitOfCode 36 = .ok (.iload_n 2, 1) := by decide +kernel
theorem dX5_unitOfCode_37 : decode cX5_unitOfCode 37 = .ok (.invokevirtual 100, 3) := by decide +kernel
theorem dX5_unitOfCode_40 : decode cX5_unitOfCode 40 = .ok (.checkcast 115, 3) := by decide +kernel
theorem dX5_unitOfCode_43 : decode cX5_unitOfCode 43 = .ok (.getfield 120, 3) := by decide +kernel
theorem dX5_unitOfCode_46 : decode cX5_unitOfCode 46 = .ok (.if_icmp .ge 5, 3) := by decide +kernel
theorem dX5_unitOfCode_49 : decode cX5_unitOfCode 49 = .ok (.iload_n 2, 1) := by decide +kernel
theorem dX5_unitOfCode_50 : decode cX5_unitOfCode 50 = .ok (.ireturn, 1) := by decide +kernel
theorem dX5_unitOfCode_51 : decode cX5_unitOfCode 51 = .ok (.iinc 2 1, 3) := by decide +kernel
theorem dX5_unitOfCode_54 : decode cX5_unitOfCode 54 = .ok (.goto (-52), 3) := by decide +kernel
theorem dX5_unitOfCode_57 : decode cX5_unitOfCode 57 = .ok (.bipush (-2), 2) := by decide +kernel
theorem dX5_unitOfCode_59 : decode cX5_unitOfCode 59 = .ok (.ireturn, 1) := by decide +kernel
theorem dX5_clearCover_0 : decode cX5_clearCover 0 = .ok (.iconst 0, 1) := by decide +kernel
theorem dX5_clearCover_1 : decode cX5_clearCover 1 = .ok (.istore_n 1, 1) := by decide +kernel
theorem dX5_clearCover_2 : decode cX5_clearCover 2 = .ok (.iload_n 1, 1) := by decide +kernel
theorem dX5_clearCover_3 : decode cX5_clearCover 3 = .ok (.iconst 3, 1) := by decide +kernel
theorem dX5_clearCover_4 : decode cX5_clearCover 4 = .ok (.if_icmp .ge 19, 3) := by decide +kernel
theorem dX5_clearCover_7 : decode cX5_clearCover 7 = .ok (.aload_n 0, 1) := by decide +kernel
theorem dX5_clearCover_8 : decode cX5_clearCover 8 = .ok (.getfield 80, 3) := by decide +kernel
theorem dX5_clearCover_11 : decode cX5_clearCover 11 = .ok (.iload_n 1, 1) := by decide +kernel
theorem dX5_clearCover_12 : decode cX5_clearCover 12 = .ok (.aaload, 1) := by decide +kernel
theorem dX5_clearCover_13 : decode cX5_clearCover 13 = .ok (.iconst 0, 1) := by decide +kernel
theorem dX5_clearCover_14 : decode cX5_clearCover 14 = .ok (.invokestatic 123, 3) := by decide +kernel
theorem dX5_clearCover_17 : decode cX5_clearCover 17 = .ok (.iinc 1 1, 3) := by decide +kernel
theorem dX5_clearCover_20 : decode cX5_clearCover 20 = .ok (.goto (-18), 3) := by decide +kernel
theorem dX5_clearCover_23 : decode cX5_clearCover 23 = .ok (.return_, 1) := by decide +kernel
theorem dX5_noteBegun_0 : decode cX5_noteBegun 0 = .ok (.aload_n 0, 1) := by decide +kernel
theorem dX5_noteBegun_1 : decode cX5_noteBegun 1 = .ok (.getfield 80, 3) := by decide +kernel
theorem dX5_noteBegun_4 : decode cX5_noteBegun 4 = .ok (.iconst 0, 1) := by decide +kernel
theorem dX5_noteBegun_5 : decode cX5_noteBegun 5 = .ok (.aaload, 1) := by decide +kernel
theorem dX5_noteBegun_6 : decode cX5_noteBegun 6 = .ok (.iload_n 1, 1) := by decide +kernel
theorem dX5_noteBegun_7 : decode cX5_noteBegun 7 = .ok (.dup2, 1) := by decide +kernel
theorem dX5_noteBegun_8 : decode cX5_noteBegun 8 = .ok (.iaload, 1) := by decide +kernel
theorem dX5_noteBegun_9 : decode cX5_noteBegun 9 = .ok (.iconst 1, 1) := by decide +kernel
theorem dX5_noteBegun_10 : decode cX5_noteBegun 10 = .ok (.iadd, 1) := by decide +kernel
theorem dX5_noteBegun_11 : decode cX5_noteBegun 11 = .ok (.iastore, 1) := by decide +kernel
theorem dX5_noteBegun_12 : decode cX5_noteBegun 12 = .ok (.aload_n 0, 1) := by decide +kernel
theorem dX5_noteBegun_13 : decode cX5_noteBegun 13 = .ok (.getfield 80, 3) := by decide +kernel
theorem dX5_noteBegun_16 : decode cX5_noteBegun 16 = .ok (.iconst 2, 1) := by decide +kernel
theorem dX5_noteBegun_17 : decode cX5_noteBegun 17 = .ok (.aaload, 1) := by decide +kernel
theorem dX5_noteBegun_18 : decode cX5_noteBegun 18 = .ok (.iload_n 1, 1) := by decide +kernel
theorem dX5_noteBegun_19 : decode cX5_noteBegun 19 = .ok (.iaload, 1) := by decide +kernel
theorem dX5_noteBegun_20 : decode cX5_noteBegun 20 = .ok (.iload_n 2, 1) := by decide +kernel
theorem dX5_noteBegun_21 : decode cX5_noteBegun 21 = .ok (.if_icmp .eq 24, 3) := by decide +kernel
theorem dX5_noteBegun_24 : decode cX5_noteBegun 24 = .ok (.aload_n 0, 1) := by decide +kernel
theorem dX5_noteBegun_25 : decode cX5_noteBegun 25 = .ok (.getfield 80, 3) := by decide +kernel
theorem dX5_noteBegun_28 : decode cX5_noteBegun 28 = .ok (.iconst 2, 1) := by decide +kernel
theorem dX5_noteBegun_29 : decode cX5_noteBegun 29 = .ok (.aaload, 1) := by decide +kernel
theorem dX5_noteBegun_30 : decode cX5_noteBegun 30 = .ok (.iload_n 1, 1) := by decide +kernel
theorem dX5_noteBegun_31 : decode cX5_noteBegun 31 = .ok (.iload_n 2, 1) := by decide +kernel
theorem dX5_noteBegun_32 : decode cX5_noteBegun 32 = .ok (.iastore, 1) := by decide +kernel
theorem dX5_noteBegun_33 : decode cX5_noteBegun 33 = .ok (.aload_n 0, 1) := by decide +kernel
theorem dX5_noteBegun_34 : decode cX5_noteBegun 34 = .ok (.getfield 80, 3) := by decide +kernel
theorem dX5_noteBegun_37 : decode cX5_noteBegun 37 = .ok (.iconst 1, 1) := by decide +kernel
theorem dX5_noteBegun_38 : decode cX5_noteBegun 38 = .ok (.aaload, 1) := by decide +kernel
theorem dX5_noteBegun_39 : decode cX5_noteBegun 39 = .ok (.iload_n 1, 1) := by decide +kernel
theorem dX5_noteBegun_40 : decode cX5_noteBegun 40 = .ok (.dup2, 1) := by decide +kernel
theorem dX5_noteBegun_41 : decode cX5_noteBegun 41 = .ok (.iaload, 1) := by decide +kernel
theorem dX5_noteBegun_42 : decode cX5_noteBegun 42 = .ok (.iconst 1, 1) := by decide +kernel
theorem dX5_noteBegun_43 : decode cX5_noteBegun 43 = .ok (.iadd, 1) := by decide +kernel
theorem dX5_noteBegun_44 : decode cX5_noteBegun 44 = .ok (.iastore, 1) := by decide +kernel
theorem dX5_noteBegun_45 : decode cX5_noteBegun 45 = .ok (.return_, 1) := by decide +kernel
theorem dX5_takeKills_0 : decode cX5_takeKills 0 = .ok (.aload_n 0, 1) := by decide +kernel
theorem dX5_takeKills_1 : decode cX5_takeKills 1 = .ok (.getfield 83, 3) := by decide +kernel
theorem dX5_takeKills_4 : decode cX5_takeKills 4 = .ok (.astore_n 1, 1) := by decide +kernel
theorem dX5_takeKills_5 : decode cX5_takeKills 5 = .ok (.aload_n 0, 1) := by decide +kernel
theorem dX5_takeKills_6 : decode cX5_takeKills 6 = .ok (.aload_n 0, 1) := by decide +kernel
theorem dX5_takeKills_7 : decode cX5_takeKills 7 = .ok (.getfield 86, 3) := by decide +kernel
theorem dX5_takeKills_10 : decode cX5_takeKills 10 = .ok (.putfield 83, 3) := by decide +kernel
theorem dX5_takeKills_13 : decode cX5_takeKills 13 = .ok (.aload_n 0, 1) := by decide +kernel
theorem dX5_takeKills_14 : decode cX5_takeKills 14 = .ok (.aload_n 1, 1) := by decide +kernel
theorem dX5_takeKills_15 : decode cX5_takeKills 15 = .ok (.putfield 86, 3) := by decide +kernel
theorem dX5_takeKills_18 : decode cX5_takeKills 18 = .ok (.aload_n 0, 1) := by decide +kernel
theorem dX5_takeKills_19 : decode cX5_takeKills 19 = .ok (.iconst 1, 1) := by decide +kernel
theorem dX5_takeKills_20 : decode cX5_takeKills 20 = .ok (.putfield 127, 3) := by decide +kernel
theorem dX5_takeKills_23 : decode cX5_takeKills 23 = .ok (.aload_n 0, 1) := by decide +kernel
theorem dX5_takeKills_24 : decode cX5_takeKills 24 = .ok (.bipush (-2), 2) := by decide +kernel
theorem dX5_takeKills_26 : decode cX5_takeKills 26 = .ok (.putfield 9, 3) := by decide +kernel
theorem dX5_takeKills_29 : decode cX5_takeKills 29 = .ok (.iconst 0, 1) := by decide +kernel
theorem dX5_takeKills_30 : decode cX5_takeKills 30 = .ok (.istore_n 2, 1) := by decide +kernel
theorem dX5_takeKills_31 : decode cX5_takeKills 31 = .ok (.iconst 0, 1) := by decide +kernel
theorem dX5_takeKills_32 : decode cX5_takeKills 32 = .ok (.istore_n 3, 1) := by decide +kernel
theorem dX5_takeKills_33 : decode cX5_takeKills 33 = .ok (.iload_n 3, 1) := by decide +kernel
theorem dX5_takeKills_34 : decode cX5_takeKills 34 = .ok (.aload_n 0, 1) := by decide +kernel
theorem dX5_takeKills_35 : decode cX5_takeKills 35 = .ok (.getfield 83, 3) := by decide +kernel
theorem dX5_takeKills_38 : decode cX5_takeKills 38 = .ok (.arraylength, 1) := by decide +kernel
theorem dX5_takeKills_39 : decode cX5_takeKills 39 = .ok (.if_icmp .ge 21, 3) := by decide +kernel
theorem dX5_takeKills_42 : decode cX5_takeKills 42 = .ok (.aload_n 0, 1) := by decide +kernel
theorem dX5_takeKills_43 : decode cX5_takeKills 43 = .ok (.getfield 83, 3) := by decide +kernel
theorem dX5_takeKills_46 : decode cX5_takeKills 46 = .ok (.iload_n 3, 1) := by decide +kernel
theorem dX5_takeKills_47 : decode cX5_takeKills 47 = .ok (.iaload, 1) := by decide +kernel
theorem dX5_takeKills_48 : decode cX5_takeKills 48 = .ok (.ifCond .eq 6, 3) := by decide +kernel
theorem dX5_takeKills_51 : decode cX5_takeKills 51 = .ok (.iinc 2 1, 3) := by decide +kernel
theorem dX5_takeKills_54 : decode cX5_takeKills 54 = .ok (.iinc 3 1, 3) := by decide +kernel
theorem dX5_takeKills_57 : decode cX5_takeKills 57 = .ok (.goto (-24), 3) := by decide +kernel
theorem dX5_takeKills_60 : decode cX5_takeKills 60 = .ok (.iload_n 2, 1) := by decide +kernel
theorem dX5_takeKills_61 : decode cX5_takeKills 61 = .ok (.ireturn, 1) := by decide +kernel
theorem dX5_leastSuite_0 : decode cX5_leastSuite 0 = .ok (.aload_n 0, 1) := by decide +kernel
theorem dX5_leastSuite_1 : decode cX5_leastSuite 1 = .ok (.getfield 9, 3) := by decide +kernel
theorem dX5_leastSuite_4 : decode cX5_leastSuite 4 = .ok (.bipush (-2), 2) := by decide +kernel
theorem dX5_leastSuite_6 : decode cX5_leastSuite 6 = .ok (.if_icmp .eq 8, 3) := by decide +kernel
theorem dX5_leastSuite_9 : decode cX5_leastSuite 9 = .ok (.aload_n 0, 1) := by decide +kernel
theorem dX5_leastSuite_10 : decode cX5_leastSuite 10 = .ok (.getfield 9, 3) := by decide +kernel
theorem dX5_leastSuite_13 : decode cX5_leastSuite 13 = .ok (.ireturn, 1) := by decide +kernel
theorem dX5_leastSuite_14 : decode cX5_leastSuite 14 = .ok (.iconst 0, 1) := by decide +kernel
theorem dX5_leastSuite_15 : decode cX5_leastSuite 15 = .ok (.istore_n 1, 1) := by decide +kernel
theorem dX5_leastSuite_16 : decode cX5_leastSuite 16 = .ok (.iconst 0, 1) := by decide +kernel
theorem dX5_leastSuite_17 : decode cX5_leastSuite 17 = .ok (.istore_n 2, 1) := by decide +kernel
theorem dX5_leastSuite_18 : decode cX5_leastSuite 18 = .ok (.iload_n 2, 1) := by decide +kernel
theorem dX5_leastSuite_19 : decode cX5_leastSuite 19 = .ok (.aload_n 0, 1) := by decide +kernel
theorem dX5_leastSuite_20 : decode cX5_leastSuite 20 = .ok (.getfield 83, 3) := by decide +kernel
theorem dX5_leastSuite_23 : decode cX5_leastSuite 23 = .ok (.arraylength, 1) := by decide +kernel
theorem dX5_leastSuite_24 : decode cX5_leastSuite 24 = .ok (.if_icmp .ge 18, 3) := by decide +kernel
theorem dX5_leastSuite_27 : decode cX5_leastSuite 27 = .ok (.iload_n 1, 1) := by decide +kernel
theorem dX5_leastSuite_28 : decode cX5_leastSuite 28 = .ok (.aload_n 0, 1) := by decide +kernel
theorem dX5_leastSuite_29 : decode cX5_leastSuite 29 = .ok (.getfield 83, 3) := by decide +kernel
theorem dX5_leastSuite_32 : decode cX5_leastSuite 32 = .ok (.iload_n 2, 1) := by decide +kernel
theorem dX5_leastSuite_33 : decode cX5_leastSuite 33 = .ok (.iaload, 1) := by decide +kernel
theorem dX5_leastSuite_34 : decode cX5_leastSuite 34 = .ok (.ior, 1) := by decide +kernel
theorem dX5_leastSuite_35 : decode cX5_leastSuite 35 = .ok (.istore_n 1, 1) := by decide +kernel
theorem dX5_leastSuite_36 : decode cX5_leastSuite 36 = .ok (.iinc 2 1, 3) := by decide +kernel
theorem dX5_leastSuite_39 : decode cX5_leastSuite 39 = .ok (.goto (-21), 3) := by decide +kernel
theorem dX5_leastSuite_42 : decode cX5_leastSuite 42 = .ok (.iload_n 1, 1) := by decide +kernel
theorem dX5_leastSuite_43 : decode cX5_leastSuite 43 = .ok (.istore_n 2, 1) := by decide +kernel
theorem dX5_leastSuite_44 : decode cX5_leastSuite 44 = .ok (.iconst 0, 1) := by decide +kernel
theorem dX5_leastSuite_45 : decode cX5_leastSuite 45 = .ok (.istore_n 3, 1) := by decide +kernel
theorem dX5_leastSuite_46 : decode cX5_leastSuite 46 = .ok (.iconst 0, 1) := by decide +kernel
theorem dX5_leastSuite_47 : decode cX5_leastSuite 47 = .ok (.istore 4, 2) := by decide +kernel
theorem dX5_leastSuite_49 : decode cX5_leastSuite 49 = .ok (.iload 4, 2) := by decide +kernel
theorem dX5_leastSuite_51 : decode cX5_leastSuite 51 = .ok (.ldc 131, 2) := by decide +kernel
theorem dX5_leastSuite_53 : decode cX5_leastSuite 53 = .ok (.if_icmp .ge 38, 3) := by decide +kernel
theorem dX5_leastSuite_56 : decode cX5_leastSuite 56 = .ok (.iload_n 3, 1) := by decide +kernel
theorem dX5_leastSuite_57 : decode cX5_leastSuite 57 = .ok (.iload_n 1, 1) := by decide +kernel
theorem dX5_leastSuite_58 : decode cX5_leastSuite 58 = .ok (.if_icmp .eq 33, 3) := by decide +kernel
theorem dX5_leastSuite_61 : decode cX5_leastSuite 61 = .ok (.iload_n 3, 1) := by decide +kernel
theorem dX5_leastSuite_62 : decode cX5_leastSuite 62 = .ok (.iload_n 2, 1) := by decide +kernel
theorem dX5_leastSuite_63 : decode cX5_leastSuite 63 = .ok (.invokestatic 132, 3) := by decide +kernel
theorem dX5_leastSuite_66 : decode cX5_leastSuite 66 = .ok (.ifCond .eq 13, 3) := by decide +kernel
theorem dX5_leastSuite_69 : decode cX5_leastSuite 69 = .ok (.aload_n 0, 1) := by decide +kernel
theorem dX5_leastSuite_70 : decode cX5_leastSuite 70 = .ok (.iload_n 3, 1) := by decide +kernel
theorem dX5_leastSuite_71 : decode cX5_leastSuite 71 = .ok (.invokevirtual 136, 3) := by decide +kernel
theorem dX5_leastSuite_74 : decode cX5_leastSuite 74 = .ok (.ifCond .eq 5, 3) := by decide +kernel
theorem dX5_leastSuite_77 : decode cX5_leastSuite 77 = .ok (.iload_n 3, 1) := by decide +kernel
theorem dX5_leastSuite_78 : decode cX5_leastSuite 78 = .ok (.istore_n 2, 1) := by decide +kernel
theorem dX5_leastSuite_79 : decode cX5_leastSuite 79 = .ok (.iload_n 3, 1) := by decide +kernel
theorem dX5_leastSuite_80 : decode cX5_leastSuite 80 = .ok (.iload_n 1, 1) := by decide +kernel
theorem dX5_leastSuite_81 : decode cX5_leastSuite 81 = .ok (.isub, 1) := by decide +kernel
theorem dX5_leastSuite_82 : decode cX5_leastSuite 82 = .ok (.iload_n 1, 1) := by decide +kernel
theorem dX5_leastSuite_83 : decode cX5_leastSuite 83 = .ok (.iand, 1) := by decide +kernel
theorem dX5_leastSuite_84 : decode cX5_leastSuite 84 = .ok (.istore_n 3, 1) := by decide +kernel
theorem dX5_leastSuite_85 : decode cX5_leastSuite 85 = .ok (.iinc 4 1, 3) := by decide +kernel
theorem dX5_leastSuite_88 : decode cX5_leastSuite 88 = .ok (.goto (-39), 3) := by decide +kernel
theorem dX5_leastSuite_91 : decode cX5_leastSuite 91 = .ok (.aload_n 0, 1) := by decide +kernel
theorem dX5_leastSuite_92 : decode cX5_leastSuite 92 = .ok (.iload_n 2, 1) := by decide +kernel
theorem dX5_leastSuite_93 : decode cX5_leastSuite 93 = .ok (.putfield 9, 3) := by decide +kernel
theorem dX5_leastSuite_96 : decode cX5_leastSuite 96 = .ok (.aload_n 0, 1) := by decide +kernel
theorem dX5_leastSuite_97 : decode cX5_leastSuite 97 = .ok (.getfield 9, 3) := by decide +kernel
theorem dX5_leastSuite_100 : decode cX5_leastSuite 100 = .ok (.ireturn, 1) := by decide +kernel
theorem dX5_isBetter_0 : decode cX5_isBetter 0 = .ok (.iload_n 1, 1) := by decide +kernel
theorem dX5_isBetter_1 : decode cX5_isBetter 1 = .ok (.invokestatic 140, 3) := by decide +kernel
theorem dX5_isBetter_4 : decode cX5_isBetter 4 = .ok (.iload_n 0, 1) := by decide +kernel
theorem dX5_isBetter_5 : decode cX5_isBetter 5 = .ok (.invokestatic 140, 3) := by decide +kernel
theorem dX5_isBetter_8 : decode cX5_isBetter 8 = .ok (.isub, 1) := by decide +kernel
theorem dX5_isBetter_9 : decode cX5_isBetter 9 = .ok (.istore_n 2, 1) := by decide +kernel
theorem dX5_isBetter_10 : decode cX5_isBetter 10 = .ok (.iload_n 0, 1) := by decide +kernel
theorem dX5_isBetter_11 : decode cX5_isBetter 11 = .ok (.iload_n 1, 1) := by decide +kernel
theorem dX5_isBetter_12 : decode cX5_isBetter 12 = .ok (.ixor, 1) := by decide +kernel
theorem dX5_isBetter_13 : decode cX5_isBetter 13 = .ok (.istore_n 3, 1) := by decide +kernel
theorem dX5_isBetter_14 : decode cX5_isBetter 14 = .ok (.iload_n 2, 1) := by decide +kernel
theorem dX5_isBetter_15 : decode cX5_isBetter 15 = .ok (.ifCond .gt 16, 3) := by decide +kernel
theorem dX5_isBetter_18 : decode cX5_isBetter 18 = .ok (.iload_n 2, 1) := by decide +kernel
theorem dX5_isBetter_19 : decode cX5_isBetter 19 = .ok (.ifCond .ne 16, 3) := by decide +kernel
theorem dX5_isBetter_22 : decode cX5_isBetter 22 = .ok (.iload_n 0, 1) := by decide +kernel
theorem dX5_isBetter_23 : decode cX5_isBetter 23 = .ok (.iload_n 3, 1) := by decide +kernel
theorem dX5_isBetter_24 : decode cX5_isBetter 24 = .ok (.iand, 1) := by decide +kernel
theorem dX5_isBetter_25 : decode cX5_isBetter 25 = .ok (.iload_n 3, 1) := by decide +kernel
theorem dX5_isBetter_26 : decode cX5_isBetter 26 = .ok (.ineg, 1) := by decide +kernel
theorem dX5_isBetter_27 : decode cX5_isBetter 27 = .ok (.iand, 1) := by decide +kernel
theorem dX5_isBetter_28 : decode cX5_isBetter 28 = .ok (.ifCond .eq 7, 3) := by decide +kernel
theorem dX5_isBetter_31 : decode cX5_isBetter 31 = .ok (.iconst 1, 1) := by decide +kernel
theorem dX5_isBetter_32 : decode cX5_isBetter 32 = .ok (.goto 4, 3) := by decide +kernel
theorem dX5_isBetter_35 : decode cX5_isBetter 35 = .ok (.iconst 0, 1) := by decide +kernel
theorem dX5_isBetter_36 : decode cX5_isBetter 36 = .ok (.ireturn, 1) := by decide +kernel
theorem dX5_killsAll_0 : decode cX5_killsAll 0 = .ok (.iconst 0, 1) := by decide +kernel
theorem dX5_killsAll_1 : decode cX5_killsAll 1 = .ok (.istore_n 2, 1) := by decide +kernel
theorem dX5_killsAll_2 : decode cX5_killsAll 2 = .ok (.iload_n 2, 1) := by decide +kernel
theorem dX5_killsAll_3 : decode cX5_killsAll 3 = .ok (.aload_n 0, 1) := by decide +kernel
theorem dX5_killsAll_4 : decode cX5_killsAll 4 = .ok (.getfield 83, 3) := by decide +kernel
theorem dX5_killsAll_7 : decode cX5_killsAll 7 = .ok (.arraylength, 1) := by decide +kernel
theorem dX5_killsAll_8 : decode cX5_killsAll 8 = .ok (.if_icmp .ge 31, 3) := by decide +kernel
theorem dX5_killsAll_11 : decode cX5_killsAll 11 = .ok (.aload_n 0, 1) := by decide +kernel
theorem dX5_killsAll_12 : decode cX5_killsAll 12 = .ok (.getfield 83, 3) := by decide +kernel
theorem dX5_killsAll_15 : decode cX5_killsAll 15 = .ok (.iload_n 2, 1) := by decide +kernel
theorem dX5_killsAll_16 : decode cX5_killsAll 16 = .ok (.iaload, 1) := by decide +kernel
theorem dX5_killsAll_17 : decode cX5_killsAll 17 = .ok (.ifCond .eq 16, 3) := by decide +kernel
theorem dX5_killsAll_20 : decode cX5_killsAll 20 = .ok (.aload_n 0, 1) := by decide +kernel
theorem dX5_killsAll_21 : decode cX5_killsAll 21 = .ok (.getfield 83, 3) := by decide +kernel
theorem dX5_killsAll_24 : decode cX5_killsAll 24 = .ok (.iload_n 2, 1) := by decide +kernel
theorem dX5_killsAll_25 : decode cX5_killsAll 25 = .ok (.iaload, 1) := by decide +kernel
theorem dX5_killsAll_26 : decode cX5_killsAll 26 = .ok (.iload_n 1, 1) := by decide +kernel
theorem dX5_killsAll_27 : decode cX5_killsAll 27 = .ok (.iand, 1) := by decide +kernel
theorem dX5_killsAll_28 : decode cX5_killsAll 28 = .ok (.ifCond .ne 5, 3) := by decide +kernel
theorem dX5_killsAll_31 : decode cX5_killsAll 31 = .ok (.iconst 0, 1) := by decide +kernel
theorem dX5_killsAll_32 : decode cX5_killsAll 32 = .ok (.ireturn, 1) := by decide +kernel
theorem dX5_killsAll_33 : decode cX5_killsAll 33 = .ok (.iinc 2 1, 3) := by decide +kernel
theorem dX5_killsAll_36 : decode cX5_killsAll 36 = .ok (.goto (-34), 3) := by decide +kernel
theorem dX5_killsAll_39 : decode cX5_killsAll 39 = .ok (.iconst 1, 1) := by decide +kernel
theorem dX5_killsAll_40 : decode cX5_killsAll 40 = .ok (.ireturn, 1) := by decide +kernel
theorem dX6_init_0 : decode cX6_init 0 = .ok (.aload_n 0, 1) := by decide +kernel
theorem dX6_init_1 : decode cX6_init 1 = .ok (.invokespecial 3, 3) := by decide +kernel
theorem dX6_init_4 : decode cX6_init 4 = .ok (.aload_n 0, 1) := by decide +kernel
theorem dX6_init_5 : decode cX6_init 5 = .ok (.new 9, 3) := by decide +kernel
theorem dX6_init_8 : decode cX6_init 8 = .ok (.dup, 1) := by decide +kernel
theorem dX6_init_9 : decode cX6_init 9 = .ok (.invokespecial 11, 3) := by decide +kernel
theorem dX6_init_12 : decode cX6_init 12 = .ok (.putfield 12, 3) := by decide +kernel
theorem dX6_init_15 : decode cX6_init 15 = .ok (.aload_n 0, 1) := by decide +kernel
theorem dX6_init_16 : decode cX6_init 16 = .ok (.sipush 4096, 3) := by decide +kernel
theorem dX6_init_19 : decode cX6_init 19 = .ok (.newarray .int, 2) := by decide +kernel
theorem dX6_init_21 : decode cX6_init 21 = .ok (.putfield 18, 3) := by decide +kernel
theorem dX6_init_24 : decode cX6_init 24 = .ok (.aload_n 0, 1) := by decide +kernel
theorem dX6_init_25 : decode cX6_init 25 = .ok (.sipush 4096, 3) := by decide +kernel
theorem dX6_init_28 : decode cX6_init 28 = .ok (.newarray .int, 2) := by decide +kernel
theorem dX6_init_30 : decode cX6_init 30 = .ok (.putfield 22, 3) := by decide +kernel
theorem dX6_init_33 : decode cX6_init 33 = .ok (.aload_n 0, 1) := by decide +kernel
theorem dX6_init_34 : decode cX6_init 34 = .ok (.sipush 4096, 3) := by decide +kernel
theorem dX6_init_37 : decode cX6_init 37 = .ok (.newarray .int, 2) := by decide +kernel
theorem dX6_init_39 : decode cX6_init 39 = .ok (.putfield 25, 3) := by decide +kernel
theorem dX6_init_42 : decode cX6_init 42 = .ok (.aload_n 0, 1) := by decide +kernel
theorem dX6_init_43 : decode cX6_init 43 = .ok (.sipush 4096, 3) := by decide +kernel
theorem dX6_init_46 : decode cX6_init 46 = .ok (.newarray .boolean, 2) := by decide +kernel
theorem dX6_init_48 : decode cX6_init 48 = .ok (.putfield 28, 3) := by decide +kernel
theorem dX6_init_51 : decode cX6_init 51 = .ok (.aload_n 0, 1) := by decide +kernel
theorem dX6_init_52 : decode cX6_init 52 = .ok (.bipush 10, 2) := by decide +kernel
theorem dX6_init_54 : decode cX6_init 54 = .ok (.newarray .long, 2) := by decide +kernel
theorem dX6_init_56 : decode cX6_init 56 = .ok (.putfield 32, 3) := by decide +kernel
theorem dX6_init_59 : decode cX6_init 59 = .ok (.aload_n 0, 1) := by decide +kernel
theorem dX6_init_60 : decode cX6_init 60 = .ok (.bipush 6, 2) := by decide +kernel
theorem dX6_init_62 : decode cX6_init 62 = .ok (.sipush 1500, 3) := by decide +kernel
theorem dX6_init_65 : decode cX6_init 65 = .ok (.multianewarray 36 2, 4) := by decide +kernel
theorem dX6_init_69 : decode cX6_init 69 = .ok (.putfield 38, 3) := by decide +kernel
theorem dX6_init_72 : decode cX6_init 72 = .ok (.aload_n 0, 1) := by decide +kernel
theorem dX6_init_73 : decode cX6_init 73 = .ok (.iconst 2, 1) := by decide +kernel
theorem dX6_init_74 : decode cX6_init 74 = .ok (.sipush 1500, 3) := by decide +kernel
theorem dX6_init_77 : decode cX6_init 77 = .ok (.multianewarray 41 2, 4) := by decide +kernel
theorem dX6_init_81 : decode cX6_init 81 = .ok (.putfield 43, 3) := by decide +kernel
theorem dX6_init_84 : decode cX6_init 84 = .ok (.return_, 1) := by decide +kernel
theorem dX6_read_0 : decode cX6_read 0 = .ok (.aload_n 0, 1) := by decide +kernel
theorem dX6_read_1 : decode cX6_read 1 = .ok (.new 46, 3) := by decide +kernel
theorem dX6_read_4 : decode cX6_read 4 = .ok (.dup, 1) := by decide +kernel
theorem dX6_read_5 : decode cX6_read 5 = .ok (.invokespecial 48, 3) := by decide +kernel
theorem dX6_read_8 : decode cX6_read 8 = .ok (.putfield 49, 3) := by decide +kernel
theorem dX6_read_11 : decode cX6_read 11 = .ok (.aload_n 0, 1) := by decide +kernel
theorem dX6_read_12 : decode cX6_read 12 = .ok (.new 46, 3) := by decide +kernel
theorem dX6_read_15 : decode cX6_read 15 = .ok (.dup, 1) := by decide +kernel
theorem dX6_read_16 : decode cX6_read 16 = .ok (.invokespecial 48, 3) := by decide +kernel
theorem dX6_read_19 : decode cX6_read 19 = .ok (.putfield 53, 3) := by decide +kernel
theorem dX6_read_22 : decode cX6_read 22 = .ok (.aload_n 0, 1) := by decide +kernel
theorem dX6_read_23 : decode cX6_read 23 = .ok (.new 46, 3) := by decide +kernel
theorem dX6_read_26 : decode cX6_read 26 = .ok (.dup, 1) := by decide +kernel
theorem dX6_read_27 : decode cX6_read 27 = .ok (.invokespecial 48, 3) := by decide +kernel
theorem dX6_read_30 : decode cX6_read 30 = .ok (.putfield 56, 3) := by decide +kernel
theorem dX6_read_33 : decode cX6_read 33 = .ok (.aload_n 0, 1) := by decide +kernel
theorem dX6_read_34 : decode cX6_read 34 = .ok (.new 46, 3) := by decide +kernel
theorem dX6_read_37 : decode cX6_read 37 = .ok (.dup, 1) := by decide +kernel
theorem dX6_read_38 : decode cX6_read 38 = .ok (.invokespecial 48, 3) := by decide +kernel
theorem dX6_read_41 : decode cX6_read 41 = .ok (.putfield 59, 3) := by decide +kernel
theorem dX6_read_44 : decode cX6_read 44 = .ok (.aload_n 0, 1) := by decide +kernel
theorem dX6_read_45 : decode cX6_read 45 = .ok (.iconst 0, 1) := by decide +kernel
theorem dX6_read_46 : decode cX6_read 46 = .ok (.putfield 62, 3) := by decide +kernel
theorem dX6_read_49 : decode cX6_read 49 = .ok (.aload_n 0, 1) := by decide +kernel
theorem dX6_read_50 : decode cX6_read 50 = .ok (.iconst 0, 1) := by decide +kernel
theorem dX6_read_51 : decode cX6_read 51 = .ok (.putfield 66, 3) := by decide +kernel
theorem dX6_read_54 : decode cX6_read 54 = .ok (.aload_n 0, 1) := by decide +kernel
theorem dX6_read_55 : decode cX6_read 55 = .ok (.iconst 0, 1) := by decide +kernel
theorem dX6_read_56 : decode cX6_read 56 = .ok (.putfield 69, 3) := by decide +kernel
theorem dX6_read_59 : decode cX6_read 59 = .ok (.aload_n 0, 1) := by decide +kernel
theorem dX6_read_60 : decode cX6_read 60 = .ok (.getfield 12, 3) := by decide +kernel
theorem dX6_read_63 : decode cX6_read 63 = .ok (.invokevirtual 72, 3) := by decide +kernel
theorem dX6_read_66 : decode cX6_read 66 = .ok (.aload_n 0, 1) := by decide +kernel
theorem dX6_read_67 : decode cX6_read 67 = .ok (.iconst 0, 1) := by decide +kernel
theorem dX6_read_68 : decode cX6_read 68 = .ok (.putfield 75, 3) := by decide +kernel
theorem dX6_read_71 : decode cX6_read 71 = .ok (.aload_n 0, 1) := by decide +kernel
theorem dX6_read_72 : decode cX6_read 72 = .ok (.aload_n 0, 1) := by decide +kernel
theorem dX6_read_73 : decode cX6_read 73 = .ok (.getfield 12, 3) := by decide +kernel
theorem dX6_read_76 : decode cX6_read 76 = .ok (.getfield 78, 3) := by decide +kernel
theorem dX6_read_79 : decode cX6_read 79 = .ok (.iconst 0, 1) := by decide +kernel
theorem dX6_read_80 : decode cX6_read 80 = .ok (.iaload, 1) := by decide +kernel
theorem dX6_read_81 : decode cX6_read 81 = .ok (.putfield 81, 3) := by decide +kernel
theorem dX6_read_84 : decode cX6_read 84 = .ok (.iconst 0, 1) := by decide +kernel
theorem dX6_read_85 : decode cX6_read 85 = .ok (.istore_n 1, 1) := by decide +kernel
theorem dX6_read_86 : decode cX6_read 86 = .ok (.iload_n 1, 1) := by decide +kernel
theorem dX6_read_87 : decode cX6_read 87 = .ok (.sipush 3000, 3) := by decide +kernel
theorem dX6_read_90 : decode cX6_read 90 = .ok (.if_icmp .ge 108, 3) := by decide +kernel
theorem dX6_read_93 : decode cX6_read 93 = .ok (.iload_n 1, 1) := by decide +kernel
theorem dX6_read_94 : decode cX6_read 94 = .ok (.ifCond .eq 13, 3) := by decide +kernel
theorem dX6_read_97 : decode cX6_read 97 = .ok (.aload_n 0, 1) := by decide +kernel
theorem dX6_read_98 : decode cX6_read 98 = .ok (.getfield 81, 3) := by decide +kernel
theorem dX6_read_101 : decode cX6_read 101 = .ok (.sipush 200, 3) := by decide +kernel
theorem dX6_read_104 : decode cX6_read 104 = .ok (.if_icmp .ne 94, 3) := by decide +kernel
theorem dX6_read_107 : decode cX6_read 107 = .ok (.aload_n 0, 1) := by decide +kernel
theorem dX6_read_108 : decode cX6_read 108 = .ok (.invokevirtual 84, 3) := by decide +kernel
theorem dX6_read_111 : decode cX6_read 111 = .ok (.iconst 0, 1) := by decide +kernel
theorem dX6_read_112 : decode cX6_read 112 = .ok (.istore_n 2, 1) := by decide +kernel
theorem dX6_read_113 : decode cX6_read 113 = .ok (.iload_n 2, 1) := by decide +kernel
theorem dX6_read_114 : decode cX6_read 114 = .ok (.sipush 3000, 3) := by decide +kernel
theorem dX6_read_117 : decode cX6_read 117 = .ok (.if_icmp .ge 30, 3) := by decide +kernel
theorem dX6_read_120 : decode cX6_read 120 = .ok (.aload_n 0, 1) := by decide +kernel
theorem dX6_read_121 : decode cX6_read 121 = .ok (.getfield 81, 3) := by decide +kernel
theorem dX6_read_124 : decode cX6_read 124 = .ok (.bipush 125, 2) := by decide +kernel
theorem dX6_read_126 : decode cX6_read 126 = .ok (.if_icmp .eq 21, 3) := by decide +kernel
theorem dX6_read_129 : decode cX6_read 129 = .ok (.aload_n 0, 1) := by decide +kernel
theorem dX6_read_130 : decode cX6_read 130 = .ok (.getfield 81, 3) := by decide +kernel
theorem dX6_read_133 : decode cX6_read 133 = .ok (.iconst 2, 1) := by decide +kernel
theorem dX6_read_134 : decode cX6_read 134 = .ok (.if_icmp .eq 13, 3) := by decide +kernel
theorem dX6_read_137 : decode cX6_read 137 = .ok (.aload_n 0, 1) := by decide +kernel
theorem dX6_read_138 : decode cX6_read 138 = .ok (.invokevirtual 87, 3) := by decide +kernel
theorem dX6_read_141 : decode cX6_read 141 = .ok (.iinc 2 1, 3) := by decide +kernel
theorem dX6_read_144 : decode cX6_read 144 = .ok (.goto (-31), 3) := by decide +kernel
theorem dX6_read_147 : decode cX6_read 147 = .ok (.aload_n 0, 1) := by decide +kernel
theorem dX6_read_148 : decode cX6_read 148 = .ok (.bipush 125, 2) := by decide +kernel
theorem dX6_read_150 : decode cX6_read 150 = .ok (.invokevirtual 90, 3) := by decide +kernel
theorem dX6_read_153 : decode cX6_read 153 = .ok (.aload_n 0, 1) := by decide +kernel
theorem dX6_read_154 : decode cX6_read 154 = .ok (.getfield 49, 3) := by decide +kernel
theorem dX6_read_157 : decode cX6_read 157 = .ok (.aload_n 0, 1) := by decide +kernel
theorem dX6_read_158 : decode cX6_read 158 = .ok (.getfield 49, 3) := by decide +kernel
theorem dX6_read_161 : decode cX6_read 161 = .ok (.invokevirtual 94, 3) := by decide +kernel
theorem dX6_read_164 : decode cX6_read 164 = .ok (.iconst 1, 1) := by decide +kernel
theorem dX6_read_165 : decode cX6_read 165 = .ok (.isub, 1) := by decide +kernel
theorem dX6_read_166 : decode cX6_read 166 = .ok (.invokevirtual 97, 3) := by decide +kernel
theorem dX6_read_169 : decode cX6_read 169 = .ok (.checkcast 101, 3) := by decide +kernel
theorem dX6_read_172 : decode cX6_read 172 = .ok (.astore_n 2, 1) := by decide +kernel
theorem dX6_read_173 : decode cX6_read 173 = .ok (.aload_n 2, 1) := by decide +kernel
theorem dX6_read_174 : decode cX6_read 174 = .ok (.aload_n 0, 1) := by decide +kernel
theorem dX6_read_175 : decode cX6_read 175 = .ok (.getfield 53, 3) := by decide +kernel
theorem dX6_read_178 : decode cX6_read 178 = .ok (.invokevirtual 94, 3) := by decide +kernel
theorem dX6_read_181 : decode cX6_read 181 = .ok (.putfield 103, 3) := by decide +kernel
theorem dX6_read_184 : decode cX6_read 184 = .ok (.aload_n 2, 1) := by decide +kernel
theorem dX6_read_185 : decode cX6_read 185 = .ok (.aload_n 0, 1) := by decide +kernel
theorem dX6_read_186 : decode cX6_read 186 = .ok (.getfield 62, 3) := by decide +kernel
theorem dX6_read_189 : decode cX6_read 189 = .ok (.putfield 106, 3) := by decide +kernel
theorem dX6_read_192 : decode cX6_read 192 = .ok (.iinc 1 1, 3) := by decide +kernel
theorem dX6_read_195 : decode cX6_read 195 = .ok (.goto (-109), 3) := by decide +kernel
theorem dX6_read_198 : decode cX6_read 198 = .ok (.aload_n 0, 1) := by decide +kernel
theorem dX6_read_199 : decode cX6_read 199 = .ok (.getfield 81, 3) := by decide +kernel
theorem dX6_read_202 : decode cX6_read 202 = .ok (.ifCond .eq 8, 3) := by decide +kernel
theorem dX6_read_205 : decode cX6_read 205 = .ok (.aload_n 0, 1) := by decide +kernel
theorem dX6_read_206 : decode cX6_read 206 = .ok (.iconst 2, 1) := by decide +kernel
theorem dX6_read_207 : decode cX6_read 207 = .ok (.invokevirtual 109, 3) := by decide +kernel
theorem dX6_read_210 : decode cX6_read 210 = .ok (.aload_n 0, 1) := by decide +kernel
theorem dX6_read_211 : decode cX6_read 211 = .ok (.invokevirtual 112, 3) := by decide +kernel
theorem dX6_read_214 : decode cX6_read 214 = .ok (.return_, 1) := by decide +kernel
theorem dX6_stop_0 : decode cX6_stop 0 = .ok (.aload_n 0, 1) := by decide +kernel
theorem dX6_stop_1 : decode cX6_stop 1 = .ok (.getfield 66, 3) := by decide +kernel
theorem dX6_stop_4 : decode cX6_stop 4 = .ok (.ifCond .ne 36, 3) := by decide +kernel
theorem dX6_stop_7 : decode cX6_stop 7 = .ok (.aload_n 0, 1) := by decide +kernel
theorem dX6_stop_8 : decode cX6_stop 8 = .ok (.aload_n 0, 1) := by decide +kernel
theorem dX6_stop_9 : decode cX6_stop 9 = .ok (.getfield 81, 3) := by decide +kernel
theorem dX6_stop_12 : decode cX6_stop 12 = .ok (.iconst 1, 1) := by decide +kernel
theorem dX6_stop_13 : decode cX6_stop 13 = .ok (.if_icmp .ne 7, 3) := by decide +kernel
theorem dX6_stop_16 : decode cX6_stop 16 = .ok (.iconst 1, 1) := by decide +kernel
theorem dX6_stop_17 : decode cX6_stop 17 = .ok (.goto 4, 3) := by decide +kernel
theorem dX6_stop_20 : decode cX6_stop 20 = .ok (.iload_n 1, 1) := by decide +kernel
theorem dX6_stop_21 : decode cX6_stop 21 = .ok (.putfield 66, 3) := by decide +kernel
theorem dX6_stop_24 : decode cX6_stop 24 = .ok (.aload_n 0, 1) := by decide +kernel
theorem dX6_stop_25 : decode cX6_stop 25 = .ok (.aload_n 0, 1) := by decide +kernel
theorem dX6_stop_26 : decode cX6_stop 26 = .ok (.getfield 12, 3) := by decide +kernel
theorem dX6_stop_29 : decode cX6_stop 29 = .ok (.getfield 115, 3) := by decide +kernel
theorem dX6_stop_32 : decode cX6_stop 32 = .ok (.aload_n 0, 1) := by decide +kernel
theorem dX6_stop_33 : decode cX6_stop 33 = .ok (.getfield 75, 3) := by decide +kernel
theorem dX6_stop_36 : decode cX6_stop 36 = .ok (.iaload, 1) := by decide +kernel
theorem dX6_stop_37 : decode cX6_stop 37 = .ok (.putfield 118, 3) := by decide +kernel
theorem dX6_stop_40 : decode cX6_stop 40 = .ok (.aload_n 0, 1) := by decide +kernel
theorem dX6_stop_41 : decode cX6_stop 41 = .ok (.iconst 2, 1) := by decide +kernel
theorem dX6_stop_42 : decode cX6_stop 42 = .ok (.putfield 81, 3) := by decide +kernel
theorem dX6_stop_45 : decode cX6_stop 45 = .ok (.return_, 1) := by decide +kernel
theorem dX6_advance_0 : decode cX6_advance 0 = .ok (.aload_n 0, 1) := by decide +kernel
theorem dX6_advance_1 : decode cX6_advance 1 = .ok (.getfield 81, 3) := by decide +kernel
theorem dX6_advance_4 : decode cX6_advance 4 = .ok (.iconst 2, 1) := by decide +kernel
theorem dX6_advance_5 : decode cX6_advance 5 = .ok (.if_icmp .eq 39, 3) := by decide +kernel
theorem dX6_advance_8 : decode cX6_advance 8 = .ok (.aload_n 0, 1) := by decide +kernel
theorem dX6_advance_9 : decode cX6_advance 9 = .ok (.getfield 75, 3) := by decide +kernel
theorem dX6_advance_12 : decode cX6_advance 12 = .ok (.sipush 3000, 3) := by decide +kernel
theorem dX6_advance_15 : decode cX6_advance 15 = .ok (.if_icmp .ge 29, 3) := by decide +kernel
theorem dX6_advance_18 : decode cX6_advance 18 = .ok (.aload_n 0, 1) := by decide +kernel
theorem dX6_advance_19 : decode cX6_advance 19 = .ok (.dup, 1) := by decide +kernel
theorem dX6_advance_20 : decode cX6_advance 20 = .ok (.getfield 75, 3) := by decide +kernel
theorem dX6_advance_23 : decode cX6_advance 23 = .ok (.iconst 1, 1) := by decide +kernel
theorem dX6_advance_24 : decode cX6_advance 24 = .ok (.iadd, 1) := by decide +kernel
theorem dX6_advance_25 : decode cX6_advance 25 = .ok (.putfield 75, 3) := by decide +kernel
theorem dX6_advance_28 : decode cX6_advance 28 = .ok (.aload_n 0, 1) := by decide +kernel
theorem dX6_advance_29 : decode cX6_advance 29 = .ok (.aload_n 0, 1) := by decide +kernel
theorem dX6_advance_30 : decode cX6_advance 30 = .ok (.getfield 12, 3) := by decide +kernel
theorem dX6_advance_33 : decode cX6_advance 33 = .ok (.getfield 78, 3) := by decide +kernel
theorem dX6_advance_36 : decode cX6_advance 36 = .ok (.aload_n 0, 1) := by decide +kernel
theorem dX6_advance_37 : decode cX6_advance 37 = .ok (.getfield 75, 3) := by decide +kernel
theorem dX6_advance_40 : decode cX6_advance 40 = .ok (.iaload, 1) := by decide +kernel
theorem dX6_advance_41 : decode cX6_advance 41 = .ok (.putfield 81, 3) := by decide +kernel
theorem dX6_advance_44 : decode cX6_advance 44 = .ok (.return_, 1) := by decide +kernel
theorem dX6_expect_0 : decode cX6_expect 0 = .ok (.aload_n 0, 1) := by decide +kernel
theorem dX6_expect_1 : decode cX6_expect 1 = .ok (.getfield 81, 3) := by decide +kernel
theorem dX6_expect_4 : decode cX6_expect 4 = .ok (.iload_n 1, 1) := by decide +kernel
theorem dX6_expect_5 : decode cX6_expect 5 = .ok (.if_icmp .ne 10, 3) := by decide +kernel
theorem dX6_expect_8 : decode cX6_expect 8 = .ok (.aload_n 0, 1) := by decide +kernel
theorem dX6_expect_9 : decode cX6_expect 9 = .ok (.invokevirtual 121, 3) := by decide +kernel
theorem dX6_expect_12 : decode cX6_expect 12 = .ok (.goto 8, 3) := by decide +kernel
theorem dX6_expect_15 : decode cX6_expect 15 = .ok (.aload_n 0, 1) := by decide +kernel
theorem dX6_expect_16 : decode cX6_expect 16 = .ok (.iconst 2, 1) := by decide +kernel
theorem dX6_expect_17 : decode cX6_expect 17 = .ok (.invokevirtual 109, 3) := by decide +kernel
theorem dX6_expect_20 : decode cX6_expect 20 = .ok (.return_, 1) := by decide +kernel
theorem dX6_text_0 : decode cX6_text 0 = .ok (.aload_n 0, 1) := by decide +kernel
theorem dX6_text_1 : decode cX6_text 1 = .ok (.getfield 12, 3) := by decide +kernel
theorem dX6_text_4 : decode cX6_text 4 = .ok (.getfield 124, 3) := by decide +kernel
theorem dX6_text_7 : decode cX6_text 7 = .ok (.aload_n 0, 1) := by decide +kernel
theorem dX6_text_8 : decode cX6_text 8 = .ok (.getfield 75, 3) := by decide +kernel
theorem dX6_text_11 : decode cX6_text 11 = .ok (.laload, 1) := by decide +kernel
theorem dX6_text_12 : decode cX6_text 12 = .ok (.lreturn, 1) := by decide +kernel
theorem dX6_newName_0 : decode cX6_newName 0 = .ok (.aload_n 0, 1) := by decide +kernel
theorem dX6_newName_1 : decode cX6_newName 1 = .ok (.invokevirtual 127, 3) := by decide +kernel
theorem dX6_newName_4 : decode cX6_newName 4 = .ok (.lstore_n 3, 1) := by decide +kernel
theorem dX6_newName_5 : decode cX6_newName 5 = .ok (.aload_n 0, 1) := by decide +kernel
theorem dX6_newName_6 : decode cX6_newName 6 = .ok (.getfield 81, 3) := by decide +kernel
theorem dX6_newName_9 : decode cX6_newName 9 = .ok (.iconst 3, 1) := by decide +kernel
theorem dX6_newName_10 : decode cX6_newName 10 = .ok (.if_icmp .eq 11, 3) := by decide +kernel
theorem dX6_newName_13 : decode cX6_newName 13 = .ok (.aload_n 0, 1) := by decide +kernel
theorem dX6_newName_14 : decode cX6_newName 14 = .ok (.iconst 2, 1) := by decide +kernel
theorem dX6_newName_15 : decode cX6_newName 15 = .ok (.invokevirtual 109, 3) := by decide +kernel
theorem dX6_newName_18 : decode cX6_newName 18 = .ok (.goto 32, 3) := by decide +kernel
theorem dX6_newName_21 : decode cX6_newName 21 = .ok (.iload_n 1, 1) := by decide +kernel
theorem dX6_newName_22 : decode cX6_newName 22 = .ok (.ifCond .eq 11, 3) := by decide +kernel
theorem dX6_newName_25 : decode cX6_newName 25 = .ok (.aload_n 0, 1) := by decide +kernel
theorem dX6_newName_26 : decode cX6_newName 26 = .ok (.iconst 3, 1) := by decide +kernel
theorem dX6_newName_27 : decode cX6_newName 27 = .ok (.invokevirtual 109, 3) := by decide +kernel
theorem dX6_newName_30 : decode cX6_newName 30 = .ok (.goto 20, 3) := by decide +kernel
theorem dX6_newName_33 : decode cX6_newName 33 = .ok (.iload_n 2, 1) := by decide +kernel
theorem dX6_newName_34 : decode cX6_newName 34 = .ok (.ifCond .eq 12, 3) := by decide +kernel
theorem dX6_newName_37 : decode cX6_newName 37 = .ok (.aload_n 0, 1) := by decide +kernel
theorem dX6_newName_38 : decode cX6_newName 38 = .ok (.bipush 6, 2) := by decide +kernel
theorem dX6_newName_40 : decode cX6_newName 40 = .ok (.invokevirtual 109, 3) := by decide +kernel
theorem dX6_newName_43 : decode cX6_newName 43 = .ok (.goto 7, 3) := by decide +kernel
theorem dX6_newName_46 : decode cX6_newName 46 = .ok (.aload_n 0, 1) := by decide +kernel
theorem dX6_newName_47 : decode cX6_newName 47 = .ok (.invokevirtual 121, 3) := by decide +kernel
theorem dX6_newName_50 : decode cX6_newName 50 = .ok (.lload_n 3, 1) := by decide +kernel
theorem dX6_newName_51 : decode cX6_newName 51 = .ok (.lreturn, 1) := by decide +kernel
theorem dX6_numberFrom_0 : decode cX6_numberFrom 0 = .ok (.aload_n 0, 1) := by decide +kernel
theorem dX6_numberFrom_1 : decode cX6_numberFrom 1 = .ok (.invokevirtual 127, 3) := by decide +kernel
theorem dX6_numberFrom_4 : decode cX6_numberFrom 4 = .ok (.l2i, 1) := by decide +kernel
theorem dX6_numberFrom_5 : decode cX6_numberFrom 5 = .ok (.istore_n 3, 1) := by decide +kernel
theorem dX6_numberFrom_6 : decode cX6_numberFrom 6 = .ok (.aload_n 0, 1) := by decide +kernel
theorem dX6_numberFrom_7 : decode cX6_numberFrom 7 = .ok (.getfield 81, 3) := by decide +kernel
theorem dX6_numberFrom_10 : decode cX6_numberFrom 10 = .ok (.iconst 4, 1) := by decide +kernel
theorem dX6_numberFrom_11 : decode cX6_numberFrom 11 = .ok (.if_icmp .ne 18, 3) := by decide +kernel
theorem dX6_numberFrom_14 : decode cX6_numberFrom 14 = .ok (.iload_n 3, 1) := by decide +kernel
theorem dX6_numberFrom_15 : decode cX6_numberFrom 15 = .ok (.iload_n 1, 1) := by decide +kernel
theorem dX6_numberFrom_16 : decode cX6_numberFrom 16 = .ok (.if_icmp .lt 8, 3) := by decide +kernel
theorem dX6_numberFrom_19 : decode cX6_numberFrom 19 = .ok (.iload_n 3, 1) := by decide +kernel
theorem dX6_numberFrom_20 : decode cX6_numberFrom 20 = .ok (.iload_n 2, 1) := by decide +kernel
theorem dX6_numberFrom_21 : decode cX6_numberFrom 21 = .ok (.if_icmp .le 8, 3) := by decide +kernel
theorem dX6_numberFrom_24 : decode cX6_numberFrom 24 = .ok (.aload_n 0, 1) := by decide +kernel
theorem dX6_numberFrom_25 : decode cX6_numberFrom 25 = .ok (.iconst 5, 1) := by decide +kernel
theorem dX6_numberFrom_26 : decode cX6_numberFrom 26 = .ok (.invokevirtual 109, 3) := by decide +kernel
theorem dX6_numberFrom_29 : decode cX6_numberFrom 29 = .ok (.aload_n 0, 1) := by decide +kernel
theorem dX6_numberFrom_30 : decode cX6_numberFrom 30 = .ok (.iconst 4, 1) := by decide +kernel
theorem dX6_numberFrom_31 : decode cX6_numberFrom 31 = .ok (.invokevirtual 90, 3) := by decide +kernel
theorem dX6_numberFrom_34 : decode cX6_numberFrom 34 = .ok (.iload_n 3, 1) := by decide +kernel
theorem dX6_numberFrom_35 : decode cX6_numberFrom 35 = .ok (.ireturn, 1) := by decide +kernel
theorem dX6_signed_0 : decode cX6_signed 0 = .ok (.aload_n 0, 1) := by decide +kernel
theorem dX6_signed_1 : decode cX6_signed 1 = .ok (.getfield 81, 3) := by decide +kernel
theorem dX6_signed_4 : decode cX6_signed 4 = .ok (.bipush 45, 2) := by decide +kernel
theorem dX6_signed_6 : decode cX6_signed 6 = .ok (.if_icmp .ne 7, 3) := by decide +kernel
theorem dX6_signed_9 : decode cX6_signed 9 = .ok (.iconst 1, 1) := by decide +kernel
theorem dX6_signed_10 : decode cX6_signed 10 = .ok (.goto 4, 3) := by decide +kernel
theorem dX6_signed_13 : decode cX6_signed 13 = .ok (.iconst 0, 1) := by decide +kernel
theorem dX6_signed_14 : decode cX6_signed 14 = .ok (.istore_n 1, 1) := by decide +kernel
theorem dX6_signed_15 : decode cX6_signed 15 = .ok (.iload_n 1, 1) := by decide +kernel
theorem dX6_signed_16 : decode cX6_signed 16 = .ok (.ifCond .eq 7, 3) := by decide +kernel
theorem dX6_signed_19 : decode cX6_signed 19 = .ok (.aload_n 0, 1) := by decide +kernel
theorem dX6_signed_20 : decode cX6_signed 20 = .ok (.invokevirtual 121, 3) := by decide +kernel
theorem dX6_signed_23 : decode cX6_signed 23 = .ok (.aload_n 0, 1) := by decide +kernel
theorem dX6_signed_24 : decode cX6_signed 24 = .ok (.invokevirtual 127, 3) := by decide +kernel
theorem dX6_signed_27 : decode cX6_signed 27 = .ok (.l2i, 1) := by decide +kernel
theorem dX6_signed_28 : decode cX6_signed 28 = .ok (.istore_n 2, 1) := by decide +kernel
theorem dX6_signed_29 : decode cX6_signed 29 = .ok (.aload_n 0, 1) := by decide +kernel
theorem dX6_signed_30 : decode cX6_signed 30 = .ok (.iconst 4, 1) := by decide +kernel
theorem dX6_signed_31 : decode cX6_signed 31 = .ok (.invokevirtual 90, 3) := by decide +kernel
theorem dX6_signed_34 : decode cX6_signed 34 = .ok (.iload_n 1, 1) := by decide +kernel
theorem dX6_signed_35 : decode cX6_signed 35 = .ok (.ifCond .eq 8, 3) := by decide +kernel
theorem dX6_signed_38 : decode cX6_signed 38 = .ok (.iload_n 2, 1) := by decide +kernel
theorem dX6_signed_39 : decode cX6_signed 39 = .ok (.ineg, 1) := by decide +kernel
theorem dX6_signed_40 : decode cX6_signed 40 = .ok (.goto 4, 3) := by decide +kernel
theorem dX6_signed_43 : decode cX6_signed 43 = .ok (.iload_n 2, 1) := by decide +kernel
theorem dX6_signed_44 : decode cX6_signed 44 = .ok (.ireturn, 1) := by decide +kernel
theorem dX6_goDeeper_0 : decode cX6_goDeeper 0 = .ok (.aload_n 0, 1) := by decide +kernel
theorem dX6_goDeeper_1 : decode cX6_goDeeper 1 = .ok (.getfield 81, 3) := by decide +kernel
theorem dX6_goDeeper_4 : decode cX6_goDeeper 4 = .ok (.iload_n 1, 1) := by decide +kernel
theorem dX6_goDeeper_5 : decode cX6_goDeeper 5 = .ok (.if_icmp .eq 11, 3) := by decide +kernel
theorem dX6_goDeeper_8 : decode cX6_goDeeper 8 = .ok (.aload_n 0, 1) := by decide +kernel
theorem dX6_goDeeper_9 : decode cX6_goDeeper 9 = .ok (.iconst 2, 1) := by decide +kernel
theorem dX6_goDeeper_10 : decode cX6_goDeeper 10 = .ok (.invokevirtual 109, 3) := by decide +kernel
theorem dX6_goDeeper_13 : decode cX6_goDeeper 13 = .ok (.goto 22, 3) := by decide +kernel
theorem dX6_goDeeper_16 : decode cX6_goDeeper 16 = .ok (.iload_n 2, 1) := by decide +kernel
theorem dX6_goDeeper_17 : decode cX6_goDeeper 17 = .ok (.bipush 20, 2) := by decide +kernel
theorem dX6_goDeeper_19 : decode cX6_goDeeper 19 = .ok (.if_icmp .lt 12, 3) := by decide +kernel
theorem dX6_goDeeper_22 : decode cX6_goDeeper 22 = .ok (.aload_n 0, 1) := by decide +kernel
theorem dX6_goDeeper_23 : decode cX6_goDeeper 23 = .ok (.bipush 6, 2) := by decide +kernel
theorem dX6_goDeeper_25 : decode cX6_goDeeper 25 = .ok (.invokevirtual 109, 3) := by decide +kernel
theorem dX6_goDeeper_28 : decode cX6_goDeeper 28 = .ok (.goto 7, 3) := by decide +kernel
theorem dX6_goDeeper_31 : decode cX6_goDeeper 31 = .ok (.aload_n 0, 1) := by decide +kernel
theorem dX6_goDeeper_32 : decode cX6_goDeeper 32 = .ok (.invokevirtual 121, 3) := by decide +kernel
theorem dX6_goDeeper_35 : decode cX6_goDeeper 35 = .ok (.return_, 1) := by decide +kernel
theorem dX6_unitNamed_0 : decode cX6_unitNamed 0 = .ok (.iconst 0, 1) := by decide +kernel
theorem dX6_unitNamed_1 : decode cX6_unitNamed 1 = .ok (.istore_n 3, 1) := by decide +kernel
theorem dX6_unitNamed_2 : decode cX6_unitNamed 2 = .ok (.iload_n 3, 1) := by decide +kernel
theorem dX6_unitNamed_3 : decode cX6_unitNamed 3 = .ok (.aload_n 0, 1) := by decide +kernel
theorem dX6_unitNamed_4 : decode cX6_unitNamed 4 = .ok (.getfield 49, 3) := by decide +kernel
theorem dX6_unitNamed_7 : decode cX6_unitNamed 7 = .ok (.invokevirtual 94, 3) := by decide +kernel
theorem dX6_unitNamed_10 : decode cX6_unitNamed 10 = .ok (.if_icmp .ge 30, 3) := by decide +kernel
theorem dX6_unitNamed_13 : decode cX6_unitNamed 13 = .ok (.aload_n 0, 1) := by decide +kernel
theorem dX6_unitNamed_14 : decode cX6_unitNamed 14 = .ok (.getfield 49, 3) := by decide +kernel
theorem dX6_unitNamed_17 : decode cX6_unitNamed 17 = .ok (.iload_n 3, 1) := by decide +kernel
theorem dX6_unitNamed_18 : decode cX6_unitNamed 18 = .ok (.invokevirtual 97, 3) := by decide +kernel
theorem dX6_unitNamed_21 : decode cX6_unitNamed 21 = .ok (.checkcast 101, 3) := by decide +kernel
theorem dX6_unitNamed_24 : decode cX6_unitNamed 24 = .ok (.getfield 131, 3) := by decide +kernel
theorem dX6_unitNamed_27 : decode cX6_unitNamed 27 = .ok (.lload_n 1, 1) := by decide +kernel
theorem dX6_unitNamed_28 : decode cX6_unitNamed 28 = .ok (.lcmp, 1) := by decide +kernel
theorem dX6_unitNamed_29 : decode cX6_unitNamed 29 = .ok (.ifCond .ne 5, 3) := by decide +kernel
theorem dX6_unitNamed_32 : decode cX6_unitNamed 32 = .ok (.iload_n 3, 1) := by decide +kernel
theorem dX6_unitNamed_33 : decode cX6_unitNamed 33 = .ok (.ireturn, 1) := by decide +kernel
theorem dX6_unitNamed_34 : decode cX6_unitNamed 34 = .ok (.iinc 3 1, 3) := by decide +kernel
theorem dX6_unitNamed_37 : decode cX6_unitNamed 37 = .ok (.goto (-35), 3) := by decide +kernel
theorem dX6_unitNamed_40 : decode cX6_unitNamed 40 = .ok (.bipush (-2), 2) := by decide +kernel
theorem dX6_unitNamed_42 : decode cX6_unitNamed 42 = .ok (.ireturn, 1) := by decide +kernel
theorem dX6_memberNamed_0 : decode cX6_memberNamed 0 = .ok (.iconst 0, 1) := by decide +kernel
theorem dX6_memberNamed_1 : decode cX6_memberNamed 1 = .ok (.istore 4, 2) := by decide +kernel
theorem dX6_memberNamed_3 : decode cX6_memberNamed 3 = .ok (.iload 4, 2) := by decide +kernel
theorem dX6_memberNamed_5 : decode cX6_memberNamed 5 = .ok (.aload_n 0, 1) := by decide +kernel
theorem dX6_memberNamed_6 : decode cX6_memberNamed 6 = .ok (.getfield 53, 3) := by decide +kernel
theorem dX6_memberNamed_9 : decode cX6_memberNamed 9 = .ok (.invokevirtual 94, 3) := by decide +kernel
theorem dX6_memberNamed_12 : decode cX6_memberNamed 12 = .ok (.if_icmp .ge 51, 3) := by decide +kernel
theorem dX6_memberNamed_15 : decode cX6_memberNamed 15 = .ok (.aload_n 0, 1) := by decide +kernel
theorem dX6_memberNamed_16 : decode cX6_memberNamed 16 = .ok (.getfield 53, 3) := by decide +kernel
theorem dX6_memberNamed_19 : decode cX6_memberNamed 19 = .ok (.iload 4, 2) := by decide +kernel
theorem dX6_memberNamed_21 : decode cX6_memberNamed 21 = .ok (.invokevirtual 97, 3) := by decide +kernel
theorem dX6_memberNamed_24 : decode cX6_memberNamed 24 = .ok (.checkcast 135, 3) := by decide +kernel
theorem dX6_memberNamed_27 : decode cX6_memberNamed 27 = .ok (.getfield 137, 3) := by decide +kernel
theorem dX6_memberNamed_30 : decode cX6_memberNamed 30 = .ok (.iload_n 1, 1) := by decide +kernel
theorem dX6_memberNamed_31 : decode cX6_memberNamed 31 = .ok (.if_icmp .ne 26, 3) := by decide +kernel
theorem dX6_memberNamed_34 : decode cX6_memberNamed 34 = .ok (.aload_n 0, 1) := by decide +kernel
theorem dX6_memberNamed_35 : decode cX6_memberNamed 35 = .ok (.getfield 53, 3) := by decide +kernel
theorem dX6_memberNamed_38 : decode cX6_memberNamed 38 = .ok (.iload 4, 2) := by decide +kernel
theorem dX6_memberNamed_40 : decode cX6_memberNamed 40 = .ok (.invokevirtual 97, 3) := by decide +kernel
theorem dX6_memberNamed_43 : decode cX6_memberNamed 43 = .ok (.checkcast 135, 3) := by decide +kernel
theorem dX6_memberNamed_46 : decode cX6_memberNamed 46 = .ok (.getfield 140, 3) := by decide +kernel
theorem dX6_memberNamed_49 : decode cX6_memberNamed 49 = .ok (.lload_n 2, 1) := by decide +kernel
theorem dX6_memberNamed_50 : decode cX6_memberNamed 50 = .ok (.lcmp, 1) := by decide +kernel
theorem dX6_memberNamed_51 : decode cX6_memberNamed 51 = .ok (.ifCond .ne 6, 3) := by decide +kernel
theorem dX6_memberNamed_54 : decode cX6_memberNamed 54 = .ok (.iload 4, 2) := by decide +kernel
theorem dX6_memberNamed_56 : decode cX6_memberNamed 56 = .ok (.ireturn, 1) := by decide +kernel
theorem dX6_memberNamed_57 : decode cX6_memberNamed 57 = .ok (.iinc 4 1, 3) := by decide +kernel
theorem dX6_memberNamed_60 : decode cX6_memberNamed 60 = .ok (.goto (-57), 3) := by decide +kernel
theorem dX6_memberNamed_63 : decode cX6_memberNamed 63 = .ok (.bipush (-2), 2) := by decide +kernel
theorem dX6_memberNamed_65 : decode cX6_memberNamed 65 = .ok (.ireturn, 1) := by decide +kernel
theorem dX6_isTold_0 : decode cX6_isTold 0 = .ok (.iconst 0, 1) := by decide +kernel
theorem dX6_isTold_1 : decode cX6_isTold 1 = .ok (.istore 4, 2) := by decide +kernel
theorem dX6_isTold_3 : decode cX6_isTold 3 = .ok (.iload 4, 2) := by decide +kernel
theorem dX6_isTold_5 : decode cX6_isTold 5 = .ok (.aload_n 1, 1) := by decide +kernel
theorem dX6_isTold_6 : decode cX6_isTold 6 = .ok (.invokevirtual 94, 3) := by decide +kernel
theorem dX6_isTold_9 : decode cX6_isTold 9 = .ok (.if_icmp .ge 52, 3) := by decide +kernel
theorem dX6_isTold_12 : decode cX6_isTold 12 = .ok (.aload_n 1, 1) := by decide +kernel
theorem dX6_isTold_13 : decode cX6_isTold 13 = .ok (.iload 4, 2) := by decide +kernel
theorem dX6_isTold_15 : decode cX6_isTold 15 = .ok (.invokevirtual 97, 3) := by decide +kernel
theorem dX6_isTold_18 : decode cX6_isTold 18 = .ok (.checkcast 135, 3) := by decide +kernel
theorem dX6_isTold_21 : decode cX6_isTold 21 = .ok (.getfield 137, 3) := by decide +kernel
theorem dX6_isTold_24 : decode cX6_isTold 24 = .ok (.aload_n 0, 1) := by decide +kernel
theorem dX6_isTold_25 : decode cX6_isTold 25 = .ok (.getfield 49, 3) := by decide +kernel
theorem dX6_isTold_28 : decode cX6_isTold 28 = .ok (.invokevirtual 94, 3) := by decide +kernel
theorem dX6_isTold_31 : decode cX6_isTold 31 = .ok (.iconst 1, 1) := by decide +kernel
theorem dX6_isTold_32 : decode cX6_isTold 32 = .ok (.isub, 1) := by decide +kernel
theorem dX6_isTold_33 : decode cX6_isTold 33 = .ok (.if_icmp .ne 22, 3) := by decide +kernel
theorem dX6_isTold_36 : decode cX6_isTold 36 = .ok (.aload_n 1, 1) := by decide +kernel
theorem dX6_isTold_37 : decode cX6_isTold 37 = .ok (.iload 4, 2) := by decide +kernel
theorem dX6_isTold_39 : decode cX6_isTold 39 = .ok (.invokevirtual 97, 3) := by decide +kernel
theorem dX6_isTold_42 : decode cX6_isTold 42 = .ok (.checkcast 135, 3) := by decide +kernel
theorem dX6_isTold_45 : decode cX6_isTold 45 = .ok (.getfield 140, 3) := by decide +kernel
theorem dX6_isTold_48 : decode cX6_isTold 48 = .ok (.lload_n 2, 1) := by decide +kernel
theorem dX6_isTold_49 : decode cX6_isTold 49 = .ok (.lcmp, 1) := by decide +kernel
theorem dX6_isTold_50 : decode cX6_isTold 50 = .ok (.ifCond .ne 5, 3) := by decide +kernel
theorem dX6_isTold_53 : decode cX6_isTold 53 = .ok (.iconst 1, 1) := by decide +kernel
theorem dX6_isTold_54 : decode cX6_isTold 54 = .ok (.ireturn, 1) := by decide +kernel
theorem dX6_isTold_55 : decode cX6_isTold 55 = .ok (.iinc 4 1, 3) := by decide +kernel
theorem dX6_isTold_58 : decode cX6_isTold 58 = .ok (.goto (-55), 3) := by decide +kernel
theorem dX6_isTold_61 : decode cX6_isTold 61 = .ok (.iconst 0, 1) := by decide +kernel
theorem dX6_isTold_62 : decode cX6_isTold 62 = .ok (.ireturn, 1) := by decide +kernel
theorem dX6_isMemberTold_0 : decode cX6_isMemberTold 0 = .ok (.aload_n 0, 1) := by decide +kernel
theorem dX6_isMemberTold_1 : decode cX6_isMemberTold 1 = .ok (.invokevirtual 127, 3) := by decide +kernel
theorem dX6_isMemberTold_4 : decode cX6_isMemberTold 4 = .ok (.lstore_n 1, 1) := by decide +kernel
theorem dX6_isMemberTold_5 : decode cX6_isMemberTold 5 = .ok (.aload_n 0, 1) := by decide +kernel
theorem dX6_isMemberTold_6 : decode cX6_isMemberTold 6 = .ok (.aload_n 0, 1) := by decide +kernel
theorem dX6_isMemberTold_7 : decode cX6_isMemberTold 7 = .ok (.getfield 53, 3) := by decide +kernel
theorem dX6_isMemberTold_10 : decode cX6_isMemberTold 10 = .ok (.lload_n 1, 1) := by decide +kernel
theorem dX6_isMemberTold_11 : decode cX6_isMemberTold 11 = .ok (.invokevirtual 141, 3) := by decide +kernel
theorem dX6_isMemberTold_14 : decode cX6_isMemberTold 14 = .ok (.ifCond .ne 27, 3) := by decide +kernel
theorem dX6_isMemberTold_17 : decode cX6_isMemberTold 17 = .ok (.aload_n 0, 1) := by decide +kernel
theorem dX6_isMemberTold_18 : decode cX6_isMemberTold 18 = .ok (.aload_n 0, 1) := by decide +kernel
theorem dX6_isMemberTold_19 : decode cX6_isMemberTold 19 = .ok (.getfield 56, 3) := by decide +kernel
theorem dX6_isMemberTold_22 : decode cX6_isMemberTold 22 = .ok (.lload_n 1, 1) := by decide +kernel
theorem dX6_isMemberTold_23 : decode cX6_isMemberTold 23 = .ok (.invokevirtual 141, 3) := by decide +kernel
theorem dX6_isMemberTold_26 : decode cX6_isMemberTold 26 = .ok (.ifCond .ne 15, 3) := by decide +kernel
theorem dX6_isMemberTold_29 : decode cX6_isMemberTold 29 = .ok (.aload_n 0, 1) := by decide +kernel
theorem dX6_isMemberTold_30 : decode cX6_isMemberTold 30 = .ok (.aload_n 0, 1) := by decide +kernel
theorem dX6_isMemberTold_31 : decode cX6_isMemberTold 31 = .ok (.getfield 59, 3) := by decide +kernel
theorem dX6_isMemberTold_34 : decode cX6_isMemberTold 34 = .ok (.lload_n 1, 1) := by decide +kernel
theorem dX6_isMemberTold_35 : decode cX6_isMemberTold 35 = .ok (.invokevirtual 141, 3) := by decide +kernel
theorem dX6_isMemberTold_38 : decode cX6_isMemberTold 38 = .ok (.ifCond .eq 7, 3) := by decide +kernel
theorem dX6_isMemberTold_41 : decode cX6_isMemberTold 41 = .ok (.iconst 1, 1) := by decide +kernel
theorem dX6_isMemberTold_42 : decode cX6_isMemberTold 42 = .ok (.goto 4, 3) := by decide +kernel
theorem dX6_isMemberTold_45 : decode cX6_isMemberTold 45 = .ok (.iconst 0, 1) := by decide +kernel
theorem dX6_isMemberTold_46 : decode cX6_isMemberTold 46 = .ok (.ireturn, 1) := by decide +kernel
theorem dX6_localNamed_0 : decode cX6_localNamed 0 = .ok (.iconst 0, 1) := by decide +kernel
theorem dX6_localNamed_1 : decode cX6_localNamed 1 = .ok (.istore_n 3, 1) := by decide +kernel
theorem dX6_localNamed_2 : decode cX6_localNamed 2 = .ok (.iload_n 3, 1) := by decide +kernel
theorem dX6_localNamed_3 : decode cX6_localNamed 3 = .ok (.aload_n 0, 1) := by decide +kernel
theorem dX6_localNamed_4 : decode cX6_localNamed 4 = .ok (.getfield 145, 3) := by decide +kernel
theorem dX6_localNamed_7 : decode cX6_localNamed 7 = .ok (.if_icmp .ge 22, 3) := by decide +kernel
theorem dX6_localNamed_10 : decode cX6_localNamed 10 = .ok (.aload_n 0, 1) := by decide +kernel
theorem dX6_localNamed_11 : decode cX6_localNamed 11 = .ok (.getfield 32, 3) := by decide +kernel
theorem dX6_localNamed_14 : decode cX6_localNamed 14 = .ok (.iload_n 3, 1) := by decide +kernel
theorem dX6_localNamed_15 : decode cX6_localNamed 15 = .ok (.laload, 1) := by decide +kernel
theorem dX6_localNamed_16 : decode cX6_localNamed 16 = .ok (.lload_n 1, 1) := by decide +kernel
theorem dX6_localNamed_17 : decode cX6_localNamed 17 = .ok (.lcmp, 1) := by decide +kernel
theorem dX6_localNamed_18 : decode cX6_localNamed 18 = .ok (.ifCond .ne 5, 3) := by decide +kernel
theorem dX6_localNamed_21 : decode cX6_localNamed 21 = .ok (.iload_n 3, 1) := by decide +kernel
theorem dX6_localNamed_22 : decode cX6_localNamed 22 = .ok (.ireturn, 1) := by decide +kernel
theorem dX6_localNamed_23 : decode cX6_localNamed 23 = .ok (.iinc 3 1, 3) := by decide +kernel
theorem dX6_localNamed_26 : decode cX6_localNamed 26 = .ok (.goto (-24), 3) := by decide +kernel
theorem dX6_localNamed_29 : decode cX6_localNamed 29 = .ok (.bipush (-2), 2) := by decide +kernel
theorem dX6_localNamed_31 : decode cX6_localNamed 31 = .ok (.ireturn, 1) := by decide +kernel
theorem dX6_addLocal_0 : decode cX6_addLocal 0 = .ok (.aload_n 0, 1) := by decide +kernel
theorem dX6_addLocal_1 : decode cX6_addLocal 1 = .ok (.getfield 145, 3) := by decide +kernel
theorem dX6_addLocal_4 : decode cX6_addLocal 4 = .ok (.bipush 10, 2) := by decide +kernel
theorem dX6_addLocal_6 : decode cX6_addLocal 6 = .ok (.if_icmp .ge 23, 3) := by decide +kernel
theorem dX6_addLocal_9 : decode cX6_addLocal 9 = .ok (.aload_n 0, 1) := by decide +kernel
theorem dX6_addLocal_10 : decode cX6_addLocal 10 = .ok (.getfield 32, 3) := by decide +kernel
theorem dX6_addLocal_13 : decode cX6_addLocal 13 = .ok (.aload_n 0, 1) := by decide +kernel
theorem dX6_addLocal_14 : decode cX6_addLocal 14 = .ok (.getfield 145, 3) := by decide +kernel
theorem dX6_addLocal_17 : decode cX6_addLocal 17 = .ok (.lload_n 1, 1) := by decide +kernel
theorem dX6_addLocal_18 : decode cX6_addLocal 18 = .ok (.lastore, 1) := by decide +kernel
theorem dX6_addLocal_19 : decode cX6_addLocal 19 = .ok (.aload_n 0, 1) := by decide +kernel
theorem dX6_addLocal_20 : decode cX6_addLocal 20 = .ok (.dup, 1) := by decide +kernel
theorem dX6_addLocal_21 : decode cX6_addLocal 21 = .ok (.getfield 145, 3) := by decide +kernel
theorem dX6_addLocal_24 : decode cX6_addLocal 24 = .ok (.iconst 1, 1) := by decide +kernel
theorem dX6_addLocal_25 : decode cX6_addLocal 25 = .ok (.iadd, 1) := by decide +kernel
theorem dX6_addLocal_26 : decode cX6_addLocal 26 = .ok (.putfield 145, 3) := by decide +kernel
theorem dX6_addLocal_29 : decode cX6_addLocal 29 = .ok (.return_, 1) := by decide +kernel
theorem dX6_readUnitHead_0 : decode cX6_readUnitHead 0 = .ok (.aload_n 0, 1) := by decide +kernel
theorem dX6_readUnitHead_1 : decode cX6_readUnitHead 1 = .ok (.sipush 200, 3) := by decide +kernel
theorem dX6_readUnitHead_4 : decode cX6_readUnitHead 4 = .ok (.invokevirtual 90, 3) := by decide +kernel
theorem dX6_readUnitHead_7 : decode cX6_readUnitHead 7 = .ok (.aload_n 0, 1) := by decide +kernel
theorem dX6_readUnitHead_8 : decode cX6_readUnitHead 8 = .ok (.aload_n 0, 1) := by decide +kernel
theorem dX6_readUnitHead_9 : decode cX6_readUnitHead 9 = .ok (.aload_n 0, 1) := by decide +kernel
theorem dX6_readUnitHead_10 : decode cX6_readUnitHead 10 = .ok (.invokevirtual 127, 3) := by decide +kernel
theorem dX6_readUnitHead_13 : decode cX6_readUnitHead 13 = .ok (.invokevirtual 148, 3) := by decide +kernel
theorem dX6_readUnitHead_16 : decode cX6_readUnitHead 16 = .ok (.ifCond .lt 7, 3) := by decide +kernel
theorem dX6_readUnitHead_19 : decode cX6_readUnitHead 19 = .ok (.iconst 1, 1) := by decide +kernel
theorem dX6_readUnitHead_20 : decode cX6_readUnitHead 20 = .ok (.goto 4, 3) := by decide +kernel
theorem dX6_readUnitHead_23 : decode cX6_readUnitHead 23 = .ok (.iconst 0, 1) := by decide +kernel
theorem dX6_readUnitHead_24 : decode cX6_readUnitHead 24 = .ok (.aload_n 0, 1) := by decide +kernel
theorem dX6_readUnitHead_25 : decode cX6_readUnitHead 25 = .ok (.getfield 49, 3) := by decide +kernel
theorem dX6_readUnitHead_28 : decode cX6_readUnitHead 28 = .ok (.invokevirtual 94, 3) := by decide +kernel
theorem dX6_readUnitHead_31 : decode cX6_readUnitHead 31 = .ok (.bipush 8, 2) := by decide +kernel
theorem dX6_readUnitHead_33 : decode cX6_readUnitHead 33 = .ok (.if_icmp .lt 7, 3) := by decide +kernel
theorem dX6_readUnitHead_36 : decode cX6_readUnitHead 36 = .ok (.iconst 1, 1) := by decide +kernel
theorem dX6_readUnitHead_37 : decode cX6_readUnitHead 37 = .ok (.goto 4, 3) := by decide +kernel
theorem dX6_readUnitHead_40 : decode cX6_readUnitHead 40 = .ok (.iconst 0, 1) := by decide +kernel
theorem dX6_readUnitHead_41 : decode cX6_readUnitHead 41 = .ok (.invokevirtual 152, 3) := by decide +kernel
theorem dX6_readUnitHead_44 : decode cX6_readUnitHead 44 = .ok (.lstore_n 1, 1) := by decide +kernel
theorem dX6_readUnitHead_45 : decode cX6_readUnitHead 45 = .ok (.aload_n 0, 1) := by decide +kernel
theorem dX6_readUnitHead_46 : decode cX6_readUnitHead 46 = .ok (.getfield 49, 3) := by decide +kernel
theorem dX6_readUnitHead_49 : decode cX6_readUnitHead 49 = .ok (.new 101, 3) := by decide +kernel
theorem dX6_readUnitHead_52 : decode cX6_readUnitHead 52 = .ok (.dup, 1) := by decide +kernel
theorem dX6_readUnitHead_53 : decode cX6_readUnitHead 53 = .ok (.lload_n 1, 1) := by decide +kernel
theorem dX6_readUnitHead_54 : decode cX6_readUnitHead 54 = .ok (.aload_n 0, 1) := by decide +kernel
theorem dX6_readUnitHead_55 : decode cX6_readUnitHead 55 = .ok (.getfield 53, 3) := by decide +kernel
theorem dX6_readUnitHead_58 : decode cX6_readUnitHead 58 = .ok (.invokevirtual 94, 3) := by decide +kernel
theorem dX6_readUnitHead_61 : decode cX6_readUnitHead 61 = .ok (.aload_n 0, 1) := by decide +kernel
theorem dX6_readUnitHead_62 : decode cX6_readUnitHead 62 = .ok (.getfield 62, 3) := by decide +kernel
theorem dX6_readUnitHead_65 : decode cX6_readUnitHead 65 = .ok (.invokespecial 156, 3) := by decide +kernel
theorem dX6_readUnitHead_68 : decode cX6_readUnitHead 68 = .ok (.invokevirtual 159, 3) := by decide +kernel
theorem dX6_readUnitHead_71 : decode cX6_readUnitHead 71 = .ok (.pop, 1) := by decide +kernel
theorem dX6_readUnitHead_72 : decode cX6_readUnitHead 72 = .ok (.aload_n 0, 1) := by decide +kernel
theorem dX6_readUnitHead_73 : decode cX6_readUnitHead 73 = .ok (.bipush 123, 2) := by decide +kernel
theorem dX6_readUnitHead_75 : decode cX6_readUnitHead 75 = .ok (.invokevirtual 90, 3) := by decide +kernel
theorem dX6_readUnitHead_78 : decode cX6_readUnitHead 78 = .ok (.return_, 1) := by decide +kernel
theorem dX6_readMember_0 : decode cX6_readMember 0 = .ok (.aload_n 0, 1) := by decide +kernel
theorem dX6_readMember_1 : decode cX6_readMember 1 = .ok (.getfield 81, 3) := by decide +kernel
theorem dX6_readMember_4 : decode cX6_readMember 4 = .ok (.sipush 201, 3) := by decide +kernel
theorem dX6_readMember_7 : decode cX6_readMember 7 = .ok (.if_icmp .ne 7, 3) := by decide +kernel
theorem dX6_readMember_10 : decode cX6_readMember 10 = .ok (.iconst 1, 1) := by decide +kernel
theorem dX6_readMember_11 : decode cX6_readMember 11 = .ok (.goto 4, 3) := by decide +kernel
theorem dX6_readMember_14 : decode cX6_readMember 14 = .ok (.iconst 0, 1) := by decide +kernel
theorem dX6_readMember_15 : decode cX6_readMember 15 = .ok (.istore_n 1, 1) := by decide +kernel
theorem dX6_readMember_16 : decode cX6_readMember 16 = .ok (.iload_n 1, 1) := by decide +kernel
theorem dX6_readMember_17 : decode cX6_readMember 17 = .ok (.ifCond .eq 7, 3) := by decide +kernel
theorem dX6_readMember_20 : decode cX6_readMember 20 = .ok (.aload_n 0, 1) := by decide +kernel
theorem dX6_readMember_21 : decode cX6_readMember 21 = .ok (.invokevirtual 121, 3) := by decide +kernel
theorem dX6_readMember_24 : decode cX6_readMember 24 = .ok (.aload_n 0, 1) := by decide +kernel
theorem dX6_readMember_25 : decode cX6_readMember 25 = .ok (.getfield 81, 3) := by decide +kernel
theorem dX6_readMember_28 : decode cX6_readMember 28 = .ok (.sipush 202, 3) := by decide +kernel
theorem dX6_readMember_31 : decode cX6_readMember 31 = .ok (.if_icmp .eq 23, 3) := by decide +kernel
theorem dX6_readMember_34 : decode cX6_readMember 34 = .ok (.aload_n 0, 1) := by decide +kernel
theorem dX6_readMember_35 : decode cX6_readMember 35 = .ok (.getfield 81, 3) := by decide +kernel
theorem dX6_readMember_38 : decode cX6_readMember 38 = .ok (.sipush 203, 3) := by decide +kernel
theorem dX6_readMember_41 : decode cX6_readMember 41 = .ok (.if_icmp .eq 13, 3) := by decide +kernel
theorem dX6_readMember_44 : decode cX6_readMember 44 = .ok (.aload_n 0, 1) := by decide +kernel
theorem dX6_readMember_45 : decode cX6_readMember 45 = .ok (.getfield 81, 3) := by decide +kernel
theorem dX6_readMember_48 : decode cX6_readMember 48 = .ok (.sipush 204, 3) := by decide +kernel
theorem dX6_readMember_51 : decode cX6_readMember 51 = .ok (.if_icmp .ne 11, 3) := by decide +kernel
theorem dX6_readMember_54 : decode cX6_readMember 54 = .ok (.aload_n 0, 1) := by decide +kernel
theorem dX6_readMember_55 : decode cX6_readMember 55 = .ok (.iload_n 1, 1) := by decide +kernel
theorem dX6_readMember_56 : decode cX6_readMember 56 = .ok (.invokevirtual 163, 3) := by decide +kernel
theorem dX6_readMember_59 : decode cX6_readMember 59 = .ok (.goto 226, 3) := by decide +kernel
theorem dX6_readMember_62 : decode cX6_readMember 62 = .ok (.aload_n 0, 1) := by decide +kernel
theorem dX6_readMember_63 : decode cX6_readMember 63 = .ok (.getfield 81, 3) := by decide +kernel
theorem dX6_readMember_66 : decode cX6_readMember 66 = .ok (.sipush 205, 3) := by decide +kernel
theorem dX6_readMember_69 : decode cX6_readMember 69 = .ok (.if_icmp .ne 11, 3) := by decide +kernel
theorem dX6_readMember_72 : decode cX6_readMember 72 = .ok (.aload_n 0, 1) := by decide +kernel
theorem dX6_readMember_73 : decode cX6_readMember 73 = .ok (.iload_n 1, 1) := by decide +kernel
theorem dX6_readMember_74 : decode cX6_readMember 74 = .ok (.invokevirtual 167, 3) := by decide +kernel
theorem dX6_readMember_77 : decode cX6_readMember 77 = .ok (.goto 208, 3) := by decide +kernel
theorem dX6_readMember_80 : decode cX6_readMember 80 = .ok (.iload_n 1, 1) := by decide +kernel
theorem dX6_readMember_81 : decode cX6_readMember 81 = .ok (.ifCond .eq 21, 3) := by decide +kernel
theorem dX6_readMember_84 : decode cX6_readMember 84 = .ok (.aload_n 0, 1) := by decide +kernel
theorem dX6_readMember_85 : decode cX6_readMember 85 = .ok (.getfield 81, 3) := by decide +kernel
theorem dX6_readMember_88 : decode cX6_readMember 88 = .ok (.sipush 207, 3) := by decide +kernel
theorem dX6_readMember_91 : decode cX6_readMember 91 = .ok (.if_icmp .eq 11, 3) := by decide +kernel
theorem dX6_readMember_94 : decode cX6_readMember 94 = .ok (.aload_n 0, 1) := by decide +kernel
theorem dX6_readMember_95 : decode cX6_readMember 95 = .ok (.iconst 2, 1) := by decide +kernel
theorem dX6_readMember_96 : decode cX6_readMember 96 = .ok (.invokevirtual 109, 3) := by decide +kernel
theorem dX6_readMember_99 : decode cX6_readMember 99 = .ok (.goto 186, 3) := by decide +kernel
theorem dX6_readMember_102 : decode cX6_readMember 102 = .ok (.aload_n 0, 1) := by decide +kernel
theorem dX6_readMember_103 : decode cX6_readMember 103 = .ok (.aload_n 0, 1) := by decide +kernel
theorem dX6_readMember_104 : decode cX6_readMember 104 = .ok (.getfield 62, 3) := by decide +kernel
theorem dX6_readMember_107 : decode cX6_readMember 107 = .ok (.putfield 170, 3) := by decide +kernel
theorem dX6_readMember_110 : decode cX6_readMember 110 = .ok (.aload_n 0, 1) := by decide +kernel
theorem dX6_readMember_111 : decode cX6_readMember 111 = .ok (.iconst 0, 1) := by decide +kernel
theorem dX6_readMember_112 : decode cX6_readMember 112 = .ok (.putfield 145, 3) := by decide +kernel
theorem dX6_readMember_115 : decode cX6_readMember 115 = .ok (.aload_n 0, 1) := by decide +kernel
theorem dX6_readMember_116 : decode cX6_readMember 116 = .ok (.getfield 81, 3) := by decide +kernel
theorem dX6_readMember_119 : decode cX6_readMember 119 = .ok (.sipush 207, 3) := by decide +kernel
theorem dX6_readMember_122 : decode cX6_readMember 122 = .ok (.if_icmp .eq 13, 3) := by decide +kernel
theorem dX6_readMember_125 : decode cX6_readMember 125 = .ok (.aload_n 0, 1) := by decide +kernel
theorem dX6_readMember_126 : decode cX6_readMember 126 = .ok (.getfield 81, 3) := by decide +kernel
theorem dX6_readMember_129 : decode cX6_readMember 129 = .ok (.sipush 206, 3) := by decide +kernel
theorem dX6_readMember_132 : decode cX6_readMember 132 = .ok (.if_icmp .ne 7, 3) := by decide +kernel
theorem dX6_readMember_135 : decode cX6_readMember 135 = .ok (.iconst 1, 1) := by decide +kernel
theorem dX6_readMember_136 : decode cX6_readMember 136 = .ok (.goto 4, 3) := by decide +kernel
theorem dX6_readMember_139 : decode cX6_readMember 139 = .ok (.iconst 0, 1) := by decide +kernel
theorem dX6_readMember_140 : decode cX6_readMember 140 = .ok (.istore_n 2, 1) := by decide +kernel
theorem dX6_readMember_141 : decode cX6_readMember 141 = .ok (.aload_n 0, 1) := by decide +kernel
theorem dX6_readMember_142 : decode cX6_readMember 142 = .ok (.getfield 81, 3) := by decide +kernel
theorem dX6_readMember_145 : decode cX6_readMember 145 = .ok (.sipush 207, 3) := by decide +kernel
theorem dX6_readMember_148 : decode cX6_readMember 148 = .ok (.if_icmp .ne 11, 3) := by decide +kernel
theorem dX6_readMember_151 : decode cX6_readMember 151 = .ok (.aload_n 0, 1) := by decide +kernel
theorem dX6_readMember_152 : decode cX6_readMember 152 = .ok (.iload_n 1, 1) := by decide +kernel
theorem dX6_readMember_153 : decode cX6_readMember 153 = .ok (.invokevirtual 173, 3) := by decide +kernel
theorem dX6_readMember_156 : decode cX6_readMember 156 = .ok (.goto 98, 3) := by decide +kernel
theorem dX6_readMember_159 : decode cX6_readMember 159 = .ok (.aload_n 0, 1) := by decide +kernel
theorem dX6_readMember_160 : decode cX6_readMember 160 = .ok (.getfield 81, 3) := by decide +kernel
theorem dX6_readMember_163 : decode cX6_readMember 163 = .ok (.sipush 206, 3) := by decide +kernel
theorem dX6_readMember_166 : decode cX6_readMember 166 = .ok (.if_icmp .eq 23, 3) := by decide +kernel
theorem dX6_readMember_169 : decode cX6_readMember 169 = .ok (.aload_n 0, 1) := by decide +kernel
theorem dX6_readMember_170 : decode cX6_readMember 170 = .ok (.getfield 81, 3) := by decide +kernel
theorem dX6_readMember_173 : decode cX6_readMember 173 = .ok (.sipush 208, 3) := by decide +kernel
theorem dX6_readMember_176 : decode cX6_readMember 176 = .ok (.if_icmp .eq 13, 3) := by decide +kernel
theorem dX6_readMember_179 : decode cX6_readMember 179 = .ok (.aload_n 0, 1) := by decide +kernel
theorem dX6_readMember_180 : decode cX6_readMember 180 = .ok (.getfield 81, 3) := by decide +kernel
theorem dX6_readMember_183 : decode cX6_readMember 183 = .ok (.sipush 209, 3) := by decide +kernel
theorem dX6_readMember_186 : decode cX6_readMember 186 = .ok (.if_icmp .ne 29, 3) := by decide +kernel
theorem dX6_readMember_189 : decode cX6_readMember 189 = .ok (.aload_n 0, 1) := by decide +kernel
theorem dX6_readMember_190 : decode cX6_readMember 190 = .ok (.aload_n 0, 1) := by decide +kernel
theorem dX6_readMember_191 : decode cX6_readMember 191 = .ok (.getfield 49, 3) := by decide +kernel
theorem dX6_readMember_194 : decode cX6_readMember 194 = .ok (.aload_n 0, 1) := by decide +kernel
theorem dX6_readMember_195 : decode cX6_readMember 195 = .ok (.getfield 49, 3) := by decide +kernel
theorem dX6_readMember_198 : decode cX6_readMember 198 = .ok (.invokevirtual 94, 3) := by decide +kernel
theorem dX6_readMember_201 : decode cX6_readMember 201 = .ok (.iconst 1, 1) := by decide +kernel
theorem dX6_readMember_202 : decode cX6_readMember 202 = .ok (.isub, 1) := by decide +kernel
theorem dX6_readMember_203 : decode cX6_readMember 203 = .ok (.invokevirtual 97, 3) := by decide +kernel
theorem dX6_readMember_206 : decode cX6_readMember 206 = .ok (.checkcast 101, 3) := by decide +kernel
theorem dX6_readMember_209 : decode cX6_readMember 209 = .ok (.invokevirtual 176, 3) := by decide +kernel
theorem dX6_readMember_212 : decode cX6_readMember 212 = .ok (.goto 42, 3) := by decide +kernel
theorem dX6_readMember_215 : decode cX6_readMember 215 = .ok (.aload_n 0, 1) := by decide +kernel
theorem dX6_readMember_216 : decode cX6_readMember 216 = .ok (.getfield 81, 3) := by decide +kernel
theorem dX6_readMember_219 : decode cX6_readMember 219 = .ok (.sipush 210, 3) := by decide +kernel
theorem dX6_readMember_222 : decode cX6_readMember 222 = .ok (.if_icmp .ne 10, 3) := by decide +kernel
theorem dX6_readMember_225 : decode cX6_readMember 225 = .ok (.aload_n 0, 1) := by decide +kernel
theorem dX6_readMember_226 : decode cX6_readMember 226 = .ok (.invokevirtual 180, 3) := by decide +kernel
theorem dX6_readMember_229 : decode cX6_readMember 229 = .ok (.goto 25, 3) := by decide +kernel
theorem dX6_readMember_232 : decode cX6_readMember 232 = .ok (.aload_n 0, 1) := by decide +kernel
theorem dX6_readMember_233 : decode cX6_readMember 233 = .ok (.getfield 81, 3) := by decide +kernel
theorem dX6_readMember_236 : decode cX6_readMember 236 = .ok (.sipush 214, 3) := by decide +kernel
theorem dX6_readMember_239 : decode cX6_readMember 239 = .ok (.if_icmp .ne 10, 3) := by decide +kernel
theorem dX6_readMember_242 : decode cX6_readMember 242 = .ok (.aload_n 0, 1) := by decide +kernel
theorem dX6_readMember_243 : decode cX6_readMember 243 = .ok (.invokevirtual 183, 3) := by decide +kernel
theorem dX6_readMember_246 : decode cX6_readMember 246 = .ok (.goto 8, 3) := by decide +kernel
theorem dX6_readMember_249 : decode cX6_readMember 249 = .ok (.aload_n 0, 1) := by decide +kernel
theorem dX6_readMember_250 : decode cX6_readMember 250 = .ok (.iconst 2, 1) := by decide +kernel
theorem dX6_readMember_251 : decode cX6_readMember 251 = .ok (.invokevirtual 109, 3) := by decide +kernel
theorem dX6_readMember_254 : decode cX6_readMember 254 = .ok (.aload_n 0, 1) := by decide +kernel
theorem dX6_readMember_255 : decode cX6_readMember 255 = .ok (.iconst 0, 1) := by decide +kernel
theorem dX6_readMember_256 : decode cX6_readMember 256 = .ok (.invokevirtual 186, 3) := by decide +kernel
theorem dX6_readMember_259 : decode cX6_readMember 259 = .ok (.aload_n 0, 1) := by decide +kernel
theorem dX6_readMember_260 : decode cX6_readMember 260 = .ok (.getfield 170, 3) := by decide +kernel
theorem dX6_readMember_263 : decode cX6_readMember 263 = .ok (.istore_n 3, 1) := by decide +kernel
theorem dX6_readMember_264 : decode cX6_readMember 264 = .ok (.iload_n 3, 1) := by decide +kernel
theorem dX6_readMember_265 : decode cX6_readMember 265 = .ok (.aload_n 0, 1) := by decide +kernel
theorem dX6_readMember_266 : decode cX6_readMember 266 = .ok (.getfield 62, 3) := by decide +kernel
theorem dX6_readMember_269 : decode cX6_readMember 269 = .ok (.if_icmp .ge 16, 3) := by decide +kernel
theorem dX6_readMember_272 : decode cX6_readMember 272 = .ok (.aload_n 0, 1) := by decide +kernel
theorem dX6_readMember_273 : decode cX6_readMember 273 = .ok (.getfield 28, 3) := by decide +kernel
theorem dX6_readMember_276 : decode cX6_readMember 276 = .ok (.iload_n 3, 1) := by decide +kernel
theorem dX6_readMember_277 : decode cX6_readMember 277 = .ok (.iload_n 2, 1) := by decide +kernel
theorem dX6_readMember_278 : decode cX6_readMember 278 = .ok (.bastore, 1) := by decide +kernel
theorem dX6_readMember_279 : decode cX6_readMember 279 = .ok (.iinc 3 1, 3) := by decide +kernel
theorem dX6_readMember_282 : decode cX6_readMember 282 = .ok (.goto (-18), 3) := by decide +kernel
theorem dX6_readMember_285 : decode cX6_readMember 285 = .ok (.return_, 1) := by decide +kernel
theorem dX6_newMember_0 : decode cX6_newMember 0 = .ok (.aload_n 0, 1) := by decide +kernel
theorem dX6_newMember_1 : decode cX6_newMember 1 = .ok (.invokevirtual 121, 3) := by decide +kernel
theorem dX6_newMember_4 : decode cX6_newMember 4 = .ok (.aload_n 0, 1) := by decide +kernel
theorem dX6_newMember_5 : decode cX6_newMember 5 = .ok (.getfield 49, 3) := by decide +kernel
theorem dX6_newMember_8 : decode cX6_newMember 8 = .ok (.invokevirtual 94, 3) := by decide +kernel
theorem dX6_newMember_11 : decode cX6_newMember 11 = .ok (.iconst 1, 1) := by decide +kernel
theorem dX6_newMember_12 : decode cX6_newMember 12 = .ok (.isub, 1) := by decide +kernel
theorem dX6_newMember_13 : decode cX6_newMember 13 = .ok (.istore_n 3, 1) := by decide +kernel
theorem dX6_newMember_14 : decode cX6_newMember 14 = .ok (.aload_n 0, 1) := by decide +kernel
theorem dX6_newMember_15 : decode cX6_newMember 15 = .ok (.getfield 53, 3) := by decide +kernel
theorem dX6_newMember_18 : decode cX6_newMember 18 = .ok (.invokevirtual 94, 3) := by decide +kernel
theorem dX6_newMember_21 : decode cX6_newMember 21 = .ok (.aload_n 0, 1) := by decide +kernel
theorem dX6_newMember_22 : decode cX6_newMember 22 = .ok (.getfield 49, 3) := by decide +kernel
theorem dX6_newMember_25 : decode cX6_newMember 25 = .ok (.iload_n 3, 1) := by decide +kernel
theorem dX6_newMember_26 : decode cX6_newMember 26 = .ok (.invokevirtual 97, 3) := by decide +kernel
theorem dX6_newMember_29 : decode cX6_newMember 29 = .ok (.checkcast 101, 3) := by decide +kernel
theorem dX6_newMember_32 : decode cX6_newMember 32 = .ok (.getfield 189, 3) := by decide +kernel
theorem dX6_newMember_35 : decode cX6_newMember 35 = .ok (.isub, 1) := by decide +kernel
theorem dX6_newMember_36 : decode cX6_newMember 36 = .ok (.istore 4, 2) := by decide +kernel
theorem dX6_newMember_38 : decode cX6_newMember 38 = .ok (.new 135, 3) := by decide +kernel
theorem dX6_newMember_41 : decode cX6_newMember 41 = .ok (.dup, 1) := by decide +kernel
theorem dX6_newMember_42 : decode cX6_newMember 42 = .ok (.aload_n 0, 1) := by decide +kernel
theorem dX6_newMember_43 : decode cX6_newMember 43 = .ok (.aload_n 0, 1) := by decide +kernel
theorem dX6_newMember_44 : decode cX6_newMember 44 = .ok (.invokevirtual 192, 3) := by decide +kernel
theorem dX6_newMember_47 : decode cX6_newMember 47 = .ok (.iload 4, 2) := by decide +kernel
theorem dX6_newMember_49 : decode cX6_newMember 49 = .ok (.bipush 12, 2) := by decide +kernel
theorem dX6_newMember_51 : decode cX6_newMember 51 = .ok (.if_icmp .lt 7, 3) := by decide +kernel
theorem dX6_newMember_54 : decode cX6_newMember 54 = .ok (.iconst 1, 1) := by decide +kernel
theorem dX6_newMember_55 : decode cX6_newMember 55 = .ok (.goto 4, 3) := by decide +kernel
theorem dX6_newMember_58 : decode cX6_newMember 58 = .ok (.iconst 0, 1) := by decide +kernel
theorem dX6_newMember_59 : decode cX6_newMember 59 = .ok (.invokevirtual 152, 3) := by decide +kernel
theorem dX6_newMember_62 : decode cX6_newMember 62 = .ok (.iload_n 3, 1) := by decide +kernel
theorem dX6_newMember_63 : decode cX6_newMember 63 = .ok (.iload_n 1, 1) := by decide +kernel
theorem dX6_newMember_64 : decode cX6_newMember 64 = .ok (.invokespecial 196, 3) := by decide +kernel
theorem dX6_newMember_67 : decode cX6_newMember 67 = .ok (.astore 5, 2) := by decide +kernel
theorem dX6_newMember_69 : decode cX6_newMember 69 = .ok (.aload 5, 2) := by decide +kernel
theorem dX6_newMember_71 : decode cX6_newMember 71 = .ok (.iload_n 2, 1) := by decide +kernel
theorem dX6_newMember_72 : decode cX6_newMember 72 = .ok (.putfield 197, 3) := by decide +kernel
theorem dX6_newMember_75 : decode cX6_newMember 75 = .ok (.aload_n 0, 1) := by decide +kernel
theorem dX6_newMember_76 : decode cX6_newMember 76 = .ok (.getfield 53, 3) := by decide +kernel
theorem dX6_newMember_79 : decode cX6_newMember 79 = .ok (.aload 5, 2) := by decide +kernel
theorem dX6_newMember_81 : decode cX6_newMember 81 = .ok (.invokevirtual 159, 3) := by decide +kernel
theorem dX6_newMember_84 : decode cX6_newMember 84 = .ok (.pop, 1) := by decide +kernel
theorem dX6_newMember_85 : decode cX6_newMember 85 = .ok (.aload 5, 2) := by decide +kernel
theorem dX6_newMember_87 : decode cX6_newMember 87 = .ok (.areturn, 1) := by decide +kernel
theorem dX6_readValue_0 : decode cX6_readValue 0 = .ok (.aload_n 0, 1) := by decide +kernel
theorem dX6_readValue_1 : decode cX6_readValue 1 = .ok (.getfield 81, 3) := by decide +kernel
theorem dX6_readValue_4 : decode cX6_readValue 4 = .ok (.sipush 202, 3) := by decide +kernel
theorem dX6_readValue_7 : decode cX6_readValue 7 = .ok (.if_icmp .ne 7, 3) := by decide +kernel
theorem dX6_readValue_10 : decode cX6_readValue 10 = .ok (.iconst 0, 1) := by decide +kernel
theorem dX6_readValue_11 : decode cX6_readValue 11 = .ok (.goto 18, 3) := by decide +kernel
theorem dX6_readValue_14 : decode cX6_readValue 14 = .ok (.aload_n 0, 1) := by decide +kernel
theorem dX6_readValue_15 : decode cX6_readValue 15 = .ok (.getfield 81, 3) := by decide +kernel
theorem dX6_readValue_18 : decode cX6_readValue 18 = .ok (.sipush 203, 3) := by decide +kernel
theorem dX6_readValue_21 : decode cX6_readValue 21 = .ok (.if_icmp .ne 7, 3) := by decide +kernel
theorem dX6_readValue_24 : decode cX6_readValue 24 = .ok (.iconst 1, 1) := by decide +kernel
theorem dX6_readValue_25 : decode cX6_readValue 25 = .ok (.goto 4, 3) := by decide +kernel
theorem dX6_readValue_28 : decode cX6_readValue 28 = .ok (.iconst 2, 1) := by decide +kernel
theorem dX6_readValue_29 : decode cX6_readValue 29 = .ok (.istore_n 2, 1) := by decide +kernel
theorem dX6_readValue_30 : decode cX6_readValue 30 = .ok (.aload_n 0, 1) := by decide +kernel
theorem dX6_readValue_31 : decode cX6_readValue 31 = .ok (.iload_n 2, 1) := by decide +kernel
theorem dX6_readValue_32 : decode cX6_readValue 32 = .ok (.iload_n 1, 1) := by decide +kernel
theorem dX6_readValue_33 : decode cX6_readValue 33 = .ok (.invokevirtual 201, 3) := by decide +kernel
theorem dX6_readValue_36 : decode cX6_readValue 36 = .ok (.astore_n 3, 1) := by decide +kernel
theorem dX6_readValue_37 : decode cX6_readValue 37 = .ok (.aload_n 0, 1) := by decide +kernel
theorem dX6_readValue_38 : decode cX6_readValue 38 = .ok (.bipush 61, 2) := by decide +kernel
theorem dX6_readValue_40 : decode cX6_readValue 40 = .ok (.invokevirtual 90, 3) := by decide +kernel
theorem dX6_readValue_43 : decode cX6_readValue 43 = .ok (.aload_n 3, 1) := by decide +kernel
theorem dX6_readValue_44 : decode cX6_readValue 44 = .ok (.aload_n 0, 1) := by decide +kernel
theorem dX6_readValue_45 : decode cX6_readValue 45 = .ok (.invokevirtual 205, 3) := by decide +kernel
theorem dX6_readValue_48 : decode cX6_readValue 48 = .ok (.putfield 208, 3) := by decide +kernel
theorem dX6_readValue_51 : decode cX6_readValue 51 = .ok (.aload_n 0, 1) := by decide +kernel
theorem dX6_readValue_52 : decode cX6_readValue 52 = .ok (.bipush 59, 2) := by decide +kernel
theorem dX6_readValue_54 : decode cX6_readValue 54 = .ok (.invokevirtual 90, 3) := by decide +kernel
theorem dX6_readValue_57 : decode cX6_readValue 57 = .ok (.return_, 1) := by decide +kernel
theorem dX6_readRow_0 : decode cX6_readRow 0 = .ok (.aload_n 0, 1) := by decide +kernel
theorem dX6_readRow_1 : decode cX6_readRow 1 = .ok (.iconst 3, 1) := by decide +kernel
theorem dX6_readRow_2 : decode cX6_readRow 2 = .ok (.iload_n 1, 1) := by decide +kernel
theorem dX6_readRow_3 : decode cX6_readRow 3 = .ok (.invokevirtual 201, 3) := by decide +kernel
theorem dX6_readRow_6 : decode cX6_readRow 6 = .ok (.astore_n 2, 1) := by decide +kernel
theorem dX6_readRow_7 : decode cX6_readRow 7 = .ok (.aload_n 0, 1) := by decide +kernel
theorem dX6_readRow_8 : decode cX6_readRow 8 = .ok (.bipush 91, 2) := by decide +kernel
theorem dX6_readRow_10 : decode cX6_readRow 10 = .ok (.invokevirtual 90, 3) := by decide +kernel
theorem dX6_readRow_13 : decode cX6_readRow 13 = .ok (.aload_n 2, 1) := by decide +kernel
theorem dX6_readRow_14 : decode cX6_readRow 14 = .ok (.aload_n 0, 1) := by decide +kernel
theorem dX6_readRow_15 : decode cX6_readRow 15 = .ok (.iconst 1, 1) := by decide +kernel
theorem dX6_readRow_16 : decode cX6_readRow 16 = .ok (.bipush 50, 2) := by decide +kernel
theorem dX6_readRow_18 : decode cX6_readRow 18 = .ok (.invokevirtual 211, 3) := by decide +kernel
theorem dX6_readRow_21 : decode cX6_readRow 21 = .ok (.putfield 208, 3) := by decide +kernel
theorem dX6_readRow_24 : decode cX6_readRow 24 = .ok (.aload_n 0, 1) := by decide +kernel
theorem dX6_readRow_25 : decode cX6_readRow 25 = .ok (.bipush 93, 2) := by decide +kernel
theorem dX6_readRow_27 : decode cX6_readRow 27 = .ok (.invokevirtual 90, 3) := by decide +kernel
theorem dX6_readRow_30 : decode cX6_readRow 30 = .ok (.aload_n 0, 1) := by decide +kernel
theorem dX6_readRow_31 : decode cX6_readRow 31 = .ok (.bipush 59, 2) := by decide +kernel
theorem dX6_readRow_33 : decode cX6_readRow 33 = .ok (.invokevirtual 90, 3) := by decide +kernel
theorem dX6_readRow_36 : decode cX6_readRow 36 = .ok (.return_, 1) := by decide +kernel
theorem dX6_readFun_0 : decode cX6_readFun 0 = .ok (.aload_n 0, 1) := by decide +kernel
theorem dX6_readFun_1 : decode cX6_readFun 1 = .ok (.iconst 4, 1) := by decide +kernel
theorem dX6_readFun_2 : decode cX6_readFun 2 = .ok (.iload_n 1, 1) := by decide +kernel
theorem dX6_readFun_3 : decode cX6_readFun 3 = .ok (.invokevirtual 201, 3) := by decide +kernel
theorem dX6_readFun_6 : decode cX6_readFun 6 = .ok (.astore_n 2, 1) := by decide +kernel
theorem dX6_readFun_7 : decode cX6_readFun 7 = .ok (.aload_n 0, 1) := by decide +kernel
theorem dX6_readFun_8 : decode cX6_readFun 8 = .ok (.bipush 40, 2) := by decide +kernel
theorem dX6_readFun_10 : decode cX6_readFun 10 = .ok (.invokevirtual 90, 3) := by decide +kernel
theorem dX6_readFun_13 : decode cX6_readFun 13 = .ok (.aload_n 0, 1) := by decide +kernel
theorem dX6_readFun_14 : decode cX6_readFun 14 = .ok (.getfield 81, 3) := by decide +kernel
theorem dX6_readFun_17 : decode cX6_readFun 17 = .ok (.bipush 41, 2) := by decide +kernel
theorem dX6_readFun_19 : decode cX6_readFun 19 = .ok (.if_icmp .eq 7, 3) := by decide +kernel
theorem dX6_readFun_22 : decode cX6_readFun 22 = .ok (.aload_n 0, 1) := by decide +kernel
theorem dX6_readFun_23 : decode cX6_readFun 23 = .ok (.invokevirtual 215, 3) := by decide +kernel
theorem dX6_readFun_26 : decode cX6_readFun 26 = .ok (.aload_n 0, 1) := by decide +kernel
theorem dX6_readFun_27 : decode cX6_readFun 27 = .ok (.bipush 41, 2) := by decide +kernel
theorem dX6_readFun_29 : decode cX6_readFun 29 = .ok (.invokevirtual 90, 3) := by decide +kernel
theorem dX6_readFun_32 : decode cX6_readFun 32 = .ok (.aload_n 2, 1) := by decide +kernel
theorem dX6_readFun_33 : decode cX6_readFun 33 = .ok (.aload_n 0, 1) := by decide +kernel
theorem dX6_readFun_34 : decode cX6_readFun 34 = .ok (.getfield 145, 3) := by decide +kernel
theorem dX6_readFun_37 : decode cX6_readFun 37 = .ok (.putfield 208, 3) := by decide +kernel
theorem dX6_readFun_40 : decode cX6_readFun 40 = .ok (.aload_n 2, 1) := by decide +kernel
theorem dX6_readFun_41 : decode cX6_readFun 41 = .ok (.aload_n 0, 1) := by decide +kernel
theorem dX6_readFun_42 : decode cX6_readFun 42 = .ok (.getfield 62, 3) := by decide +kernel
theorem dX6_readFun_45 : decode cX6_readFun 45 = .ok (.putfield 218, 3) := by decide +kernel
theorem dX6_readFun_48 : decode cX6_readFun 48 = .ok (.return_, 1) := by decide +kernel
theorem dX6_readParameters_0 : decode cX6_readParameters 0 = .ok (.iconst 1, 1) := by decide +kernel
theorem dX6_readParameters_1 : decode cX6_readParameters 1 = .ok (.istore_n 1, 1) := by decide +kernel
theorem dX6_readParameters_2 : decode cX6_readParameters 2 = .ok (.iconst 0, 1) := by decide +kernel
theorem dX6_readParameters_3 : decode cX6_readParameters 3 = .ok (.istore_n 2, 1) := by decide +kernel
theorem dX6_readParameters_4 : decode cX6_readParameters 4 = .ok (.iload_n 2, 1) := by decide +kernel
theorem dX6_readParameters_5 : decode cX6_readParameters 5 = .ok (.sipush 3000, 3) := by decide +kernel
theorem dX6_readParameters_8 : decode cX6_readParameters 8 = .ok (.if_icmp .ge 73, 3) := by decide +kernel
theorem dX6_readParameters_11 : decode cX6_readParameters 11 = .ok (.iload_n 1, 1) := by decide +kernel
theorem dX6_readParameters_12 : decode cX6_readParameters 12 = .ok (.ifCond .eq 69, 3) := by decide +kernel
theorem dX6_readParameters_15 : decode cX6_readParameters 15 = .ok (.aload_n 0, 1) := by decide +kernel
theorem dX6_readParameters_16 : decode cX6_readParameters 16 = .ok (.aload_n 0, 1) := by decide +kernel
theorem dX6_readParameters_17 : decode cX6_readParameters 17 = .ok (.aload_n 0, 1) := by decide +kernel
theorem dX6_readParameters_18 : decode cX6_readParameters 18 = .ok (.aload_n 0, 1) := by decide +kernel
theorem dX6_readParameters_19 : decode cX6_readParameters 19 = .ok (.invokevirtual 127, 3) := by decide +kernel
theorem dX6_readParameters_22 : decode cX6_readParameters 22 = .ok (.invokevirtual 221, 3) := by decide +kernel
theorem dX6_readParameters_25 : decode cX6_readParameters 25 = .ok (.ifCond .lt 7, 3) := by decide +kernel
theorem dX6_readParameters_28 : decode cX6_readParameters 28 = .ok (.iconst 1, 1) := by decide +kernel
theorem dX6_readParameters_29 : decode cX6_readParameters 29 = .ok (.goto 4, 3) := by decide +kernel
theorem dX6_readParameters_32 : decode cX6_readParameters 32 = .ok (.iconst 0, 1) := by decide +kernel
theorem dX6_readParameters_33 : decode cX6_readParameters 33 = .ok (.aload_n 0, 1) := by decide +kernel
theorem dX6_readParameters_34 : decode cX6_readParameters 34 = .ok (.getfield 145, 3) := by decide +kernel
theorem dX6_readParameters_37 : decode cX6_readParameters 37 = .ok (.iconst 4, 1) := by decide +kernel
theorem dX6_readParameters_38 : decode cX6_readParameters 38 = .ok (.if_icmp .lt 7, 3) := by decide +kernel
theorem dX6_readParameters_41 : decode cX6_readParameters 41 = .ok (.iconst 1, 1) := by decide +kernel
theorem dX6_readParameters_42 : decode cX6_readParameters 42 = .ok (.goto 4, 3) := by decide +kernel
theorem dX6_readParameters_45 : decode cX6_readParameters 45 = .ok (.iconst 0, 1) := by decide +kernel
theorem dX6_readParameters_46 : decode cX6_readParameters 46 = .ok (.invokevirtual 152, 3) := by decide +kernel
theorem dX6_readParameters_49 : decode cX6_readParameters 49 = .ok (.invokevirtual 224, 3) := by decide +kernel
theorem dX6_readParameters_52 : decode cX6_readParameters 52 = .ok (.aload_n 0, 1) := by decide +kernel
theorem dX6_readParameters_53 : decode cX6_readParameters 53 = .ok (.getfield 81, 3) := by decide +kernel
theorem dX6_readParameters_56 : decode cX6_readParameters 56 = .ok (.bipush 44, 2) := by decide +kernel
theorem dX6_readParameters_58 : decode cX6_readParameters 58 = .ok (.if_icmp .ne 7, 3) := by decide +kernel
theorem dX6_readParameters_61 : decode cX6_readParameters 61 = .ok (.iconst 1, 1) := by decide +kernel
theorem dX6_readParameters_62 : decode cX6_readParameters 62 = .ok (.goto 4, 3) := by decide +kernel
theorem dX6_readParameters_65 : decode cX6_readParameters 65 = .ok (.iconst 0, 1) := by decide +kernel
theorem dX6_readParameters_66 : decode cX6_readParameters 66 = .ok (.istore_n 1, 1) := by decide +kernel
theorem dX6_readParameters_67 : decode cX6_readParameters 67 = .ok (.iload_n 1, 1) := by decide +kernel
theorem dX6_readParameters_68 : decode cX6_readParameters 68 = .ok (.ifCond .eq 7, 3) := by decide +kernel
theorem dX6_readParameters_71 : decode cX6_readParameters 71 = .ok (.aload_n 0, 1) := by decide +kernel
theorem dX6_readParameters_72 : decode cX6_readParameters 72 = .ok (.invokevirtual 121, 3) := by decide +kernel
theorem dX6_readParameters_75 : decode cX6_readParameters 75 = .ok (.iinc 2 1, 3) := by decide +kernel
theorem dX6_readParameters_78 : decode cX6_readParameters 78 = .ok (.goto (-74), 3) := by decide +kernel
theorem dX6_readParameters_81 : decode cX6_readParameters 81 = .ok (.return_, 1) := by decide +kernel
theorem dX6_readNameless_0 : decode cX6_readNameless 0 = .ok (.aload_n 0, 1) := by decide +kernel
theorem dX6_readNameless_1 : decode cX6_readNameless 1 = .ok (.getfield 81, 3) := by decide +kernel
theorem dX6_readNameless_4 : decode cX6_readNameless 4 = .ok (.istore_n 2, 1) := by decide +kernel
theorem dX6_readNameless_5 : decode cX6_readNameless 5 = .ok (.iload_n 2, 1) := by decide +kernel
theorem dX6_readNameless_6 : decode cX6_readNameless 6 = .ok (.sipush 206, 3) := by decide +kernel
theorem dX6_readNameless_9 : decode cX6_readNameless 9 = .ok (.if_icmp .ne 18, 3) := by decide +kernel
theorem dX6_readNameless_12 : decode cX6_readNameless 12 = .ok (.aload_n 1, 1) := by decide +kernel
theorem dX6_readNameless_13 : decode cX6_readNameless 13 = .ok (.getfield 228, 3) := by decide +kernel
theorem dX6_readNameless_16 : decode cX6_readNameless 16 = .ok (.ifCond .lt 7, 3) := by decide +kernel
theorem dX6_readNameless_19 : decode cX6_readNameless 19 = .ok (.iconst 1, 1) := by decide +kernel
theorem dX6_readNameless_20 : decode cX6_readNameless 20 = .ok (.goto 43, 3) := by decide +kernel
theorem dX6_readNameless_23 : decode cX6_readNameless 23 = .ok (.iconst 0, 1) := by decide +kernel
theorem dX6_readNameless_24 : decode cX6_readNameless 24 = .ok (.goto 39, 3) := by decide +kernel
theorem dX6_readNameless_27 : decode cX6_readNameless 27 = .ok (.iload_n 2, 1) := by decide +kernel
theorem dX6_readNameless_28 : decode cX6_readNameless 28 = .ok (.sipush 208, 3) := by decide +kernel
theorem dX6_readNameless_31 : decode cX6_readNameless 31 = .ok (.if_icmp .ne 19, 3) := by decide +kernel
theorem dX6_readNameless_34 : decode cX6_readNameless 34 = .ok (.aload_n 1, 1) := by decide +kernel
theorem dX6_readNameless_35 : decode cX6_readNameless 35 = .ok (.getfield 231, 3) := by decide +kernel
theorem dX6_readNameless_38 : decode cX6_readNameless 38 = .ok (.iconst 3, 1) := by decide +kernel
theorem dX6_readNameless_39 : decode cX6_readNameless 39 = .ok (.if_icmp .lt 7, 3) := by decide +kernel
theorem dX6_readNameless_42 : decode cX6_readNameless 42 = .ok (.iconst 1, 1) := by decide +kernel
theorem dX6_readNameless_43 : decode cX6_readNameless 43 = .ok (.goto 20, 3) := by decide +kernel
theorem dX6_readNameless_46 : decode cX6_readNameless 46 = .ok (.iconst 0, 1) := by decide +kernel
theorem dX6_readNameless_47 : decode cX6_readNameless 47 = .ok (.goto 16, 3) := by decide +kernel
theorem dX6_readNameless_50 : decode cX6_readNameless 50 = .ok (.aload_n 1, 1) := by decide +kernel
theorem dX6_readNameless_51 : decode cX6_readNameless 51 = .ok (.getfield 234, 3) := by decide +kernel
theorem dX6_readNameless_54 : decode cX6_readNameless 54 = .ok (.iconst 3, 1) := by decide +kernel
theorem dX6_readNameless_55 : decode cX6_readNameless 55 = .ok (.if_icmp .lt 7, 3) := by decide +kernel
theorem dX6_readNameless_58 : decode cX6_readNameless 58 = .ok (.iconst 1, 1) := by decide +kernel
theorem dX6_readNameless_59 : decode cX6_readNameless 59 = .ok (.goto 4, 3) := by decide +kernel
theorem dX6_readNameless_62 : decode cX6_readNameless 62 = .ok (.iconst 0, 1) := by decide +kernel
theorem dX6_readNameless_63 : decode cX6_readNameless 63 = .ok (.istore_n 3, 1) := by decide +kernel
theorem dX6_readNameless_64 : decode cX6_readNameless 64 = .ok (.iload_n 3, 1) := by decide +kernel
theorem dX6_readNameless_65 : decode cX6_readNameless 65 = .ok (.ifCond .eq 10, 3) := by decide +kernel
theorem dX6_readNameless_68 : decode cX6_readNameless 68 = .ok (.aload_n 0, 1) := by decide +kernel
theorem dX6_readNameless_69 : decode cX6_readNameless 69 = .ok (.bipush 6, 2) := by decide +kernel
theorem dX6_readNameless_71 : decode cX6_readNameless 71 = .ok (.invokevirtual 109, 3) := by decide +kernel
theorem dX6_readNameless_74 : decode cX6_readNameless 74 = .ok (.return_, 1) := by decide +kernel
theorem dX6_readNameless_75 : decode cX6_readNameless 75 = .ok (.aload_n 0, 1) := by decide +kernel
theorem dX6_readNameless_76 : decode cX6_readNameless 76 = .ok (.invokevirtual 121, 3) := by decide +kernel
theorem dX6_readNameless_79 : decode cX6_readNameless 79 = .ok (.iload_n 2, 1) := by decide +kernel
theorem dX6_readNameless_80 : decode cX6_readNameless 80 = .ok (.sipush 206, 3) := by decide +kernel
theorem dX6_readNameless_83 : decode cX6_readNameless 83 = .ok (.if_icmp .ne 14, 3) := by decide +kernel
theorem dX6_readNameless_86 : decode cX6_readNameless 86 = .ok (.aload_n 1, 1) := by decide +kernel
theorem dX6_readNameless_87 : decode cX6_readNameless 87 = .ok (.aload_n 0, 1) := by decide +kernel
theorem dX6_readNameless_88 : decode cX6_readNameless 88 = .ok (.getfield 62, 3) := by decide +kernel
theorem dX6_readNameless_91 : decode cX6_readNameless 91 = .ok (.putfield 228, 3) := by decide +kernel
theorem dX6_readNameless_94 : decode cX6_readNameless 94 = .ok (.goto 59, 3) := by decide +kernel
theorem dX6_readNameless_97 : decode cX6_readNameless 97 = .ok (.iload_n 2, 1) := by decide +kernel
theorem dX6_readNameless_98 : decode cX6_readNameless 98 = .ok (.sipush 208, 3) := by decide +kernel
theorem dX6_readNameless_101 : decode cX6_readNameless 101 = .ok (.if_icmp .ne 29, 3) := by decide +kernel
theorem dX6_readNameless_104 : decode cX6_readNameless 104 = .ok (.aload_n 1, 1) := by decide +kernel
theorem dX6_readNameless_105 : decode cX6_readNameless 105 = .ok (.getfield 237, 3) := by decide +kernel
theorem dX6_readNameless_108 : decode cX6_readNameless 108 = .ok (.aload_n 1, 1) := by decide +kernel
theorem dX6_readNameless_109 : decode cX6_readNameless 109 = .ok (.getfield 231, 3) := by decide +kernel
theorem dX6_readNameless_112 : decode cX6_readNameless 112 = .ok (.aload_n 0, 1) := by decide +kernel
theorem dX6_readNameless_113 : decode cX6_readNameless 113 = .ok (.getfield 62, 3) := by decide +kernel
theorem dX6_readNameless_116 : decode cX6_readNameless 116 = .ok (.iastore, 1) := by decide +kernel
theorem dX6_readNameless_117 : decode cX6_readNameless 117 = .ok (.aload_n 1, 1) := by decide +kernel
theorem dX6_readNameless_118 : decode cX6_readNameless 118 = .ok (.dup, 1) := by decide +kernel
theorem dX6_readNameless_119 : decode cX6_readNameless 119 = .ok (.getfield 231, 3) := by decide +kernel
theorem dX6_readNameless_122 : decode cX6_readNameless 122 = .ok (.iconst 1, 1) := by decide +kernel
theorem dX6_readNameless_123 : decode cX6_readNameless 123 = .ok (.iadd, 1) := by decide +kernel
theorem dX6_readNameless_124 : decode cX6_readNameless 124 = .ok (.putfield 231, 3) := by decide +kernel
theorem dX6_readNameless_127 : decode cX6_readNameless 127 = .ok (.goto 26, 3) := by decide +kernel
theorem dX6_readNameless_130 : decode cX6_readNameless 130 = .ok (.aload_n 1, 1) := by decide +kernel
theorem dX6_readNameless_131 : decode cX6_readNameless 131 = .ok (.getfield 240, 3) := by decide +kernel
theorem dX6_readNameless_134 : decode cX6_readNameless 134 = .ok (.aload_n 1, 1) := by decide +kernel
theorem dX6_readNameless_135 : decode cX6_readNameless 135 = .ok (.getfield 234, 3) := by decide +kernel
theorem dX6_readNameless_138 : decode cX6_readNameless 138 = .ok (.aload_n 0, 1) := by decide +kernel
theorem dX6_readNameless_139 : decode cX6_readNameless 139 = .ok (.getfield 62, 3) := by decide +kernel
theorem dX6_readNameless_142 : decode cX6_readNameless 142 = .ok (.iastore, 1) := by decide +kernel
theorem dX6_readNameless_143 : decode cX6_readNameless 143 = .ok (.aload_n 1, 1) := by decide +kernel
theorem dX6_readNameless_144 : decode cX6_readNameless 144 = .ok (.dup, 1) := by decide +kernel
theorem dX6_readNameless_145 : decode cX6_readNameless 145 = .ok (.getfield 234, 3) := by decide +kernel
theorem dX6_readNameless_148 : decode cX6_readNameless 148 = .ok (.iconst 1, 1) := by decide +kernel
theorem dX6_readNameless_149 : decode cX6_readNameless 149 = .ok (.iadd, 1) := by decide +kernel
theorem dX6_readNameless_150 : decode cX6_readNameless 150 = .ok (.putfield 234, 3) := by decide +kernel
theorem dX6_readNameless_153 : decode cX6_readNameless 153 = .ok (.return_, 1) := by decide +kernel
theorem dX6_readTest_0 : decode cX6_readTest 0 = .ok (.aload_n 0, 1) := by decide +kernel
theorem dX6_readTest_1 : decode cX6_readTest 1 = .ok (.invokevirtual 121, 3) := by decide +kernel
theorem dX6_readTest_4 : decode cX6_readTest 4 = .ok (.aload_n 0, 1) := by decide +kernel
theorem dX6_readTest_5 : decode cX6_readTest 5 = .ok (.getfield 56, 3) := by decide +kernel
theorem dX6_readTest_8 : decode cX6_readTest 8 = .ok (.invokevirtual 94, 3) := by decide +kernel
theorem dX6_readTest_11 : decode cX6_readTest 11 = .ok (.istore_n 1, 1) := by decide +kernel
theorem dX6_readTest_12 : decode cX6_readTest 12 = .ok (.aload_n 0, 1) := by decide +kernel
theorem dX6_readTest_13 : decode cX6_readTest 13 = .ok (.aload_n 0, 1) := by decide +kernel
theorem dX6_readTest_14 : decode cX6_readTest 14 = .ok (.invokevirtual 192, 3) := by decide +kernel
theorem dX6_readTest_17 : decode cX6_readTest 17 = .ok (.iload_n 1, 1) := by decide +kernel
theorem dX6_readTest_18 : decode cX6_readTest 18 = .ok (.bipush 16, 2) := by decide +kernel
theorem dX6_readTest_20 : decode cX6_readTest 20 = .ok (.if_icmp .lt 7, 3) := by decide +kernel
theorem dX6_readTest_23 : decode cX6_readTest 23 = .ok (.iconst 1, 1) := by decide +kernel
theorem dX6_readTest_24 : decode cX6_readTest 24 = .ok (.goto 4, 3) := by decide +kernel
theorem dX6_readTest_27 : decode cX6_readTest 27 = .ok (.iconst 0, 1) := by decide +kernel
theorem dX6_readTest_28 : decode cX6_readTest 28 = .ok (.invokevirtual 152, 3) := by decide +kernel
theorem dX6_readTest_31 : decode cX6_readTest 31 = .ok (.lstore_n 2, 1) := by decide +kernel
theorem dX6_readTest_32 : decode cX6_readTest 32 = .ok (.new 135, 3) := by decide +kernel
theorem dX6_readTest_35 : decode cX6_readTest 35 = .ok (.dup, 1) := by decide +kernel
theorem dX6_readTest_36 : decode cX6_readTest 36 = .ok (.lload_n 2, 1) := by decide +kernel
theorem dX6_readTest_37 : decode cX6_readTest 37 = .ok (.aload_n 0, 1) := by decide +kernel
theorem dX6_readTest_38 : decode cX6_readTest 38 = .ok (.getfield 49, 3) := by decide +kernel
theorem dX6_readTest_41 : decode cX6_readTest 41 = .ok (.invokevirtual 94, 3) := by decide +kernel
theorem dX6_readTest_44 : decode cX6_readTest 44 = .ok (.iconst 1, 1) := by decide +kernel
theorem dX6_readTest_45 : decode cX6_readTest 45 = .ok (.isub, 1) := by decide +kernel
theorem dX6_readTest_46 : decode cX6_readTest 46 = .ok (.iconst 5, 1) := by decide +kernel
theorem dX6_readTest_47 : decode cX6_readTest 47 = .ok (.invokespecial 196, 3) := by decide +kernel
theorem dX6_readTest_50 : decode cX6_readTest 50 = .ok (.astore 4, 2) := by decide +kernel
theorem dX6_readTest_52 : decode cX6_readTest 52 = .ok (.aload_n 0, 1) := by decide +kernel
theorem dX6_readTest_53 : decode cX6_readTest 53 = .ok (.getfield 56, 3) := by decide +kernel
theorem dX6_readTest_56 : decode cX6_readTest 56 = .ok (.aload 4, 2) := by decide +kernel
theorem dX6_readTest_58 : decode cX6_readTest 58 = .ok (.invokevirtual 159, 3) := by decide +kernel
theorem dX6_readTest_61 : decode cX6_readTest 61 = .ok (.pop, 1) := by decide +kernel
theorem dX6_readTest_62 : decode cX6_readTest 62 = .ok (.aload_n 0, 1) := by decide +kernel
theorem dX6_readTest_63 : decode cX6_readTest 63 = .ok (.getfield 81, 3) := by decide +kernel
theorem dX6_readTest_66 : decode cX6_readTest 66 = .ok (.sipush 211, 3) := by decide +kernel
theorem dX6_readTest_69 : decode cX6_readTest 69 = .ok (.if_icmp .ne 13, 3) := by decide +kernel
theorem dX6_readTest_72 : decode cX6_readTest 72 = .ok (.aload 4, 2) := by decide +kernel
theorem dX6_readTest_74 : decode cX6_readTest 74 = .ok (.iconst 1, 1) := by decide +kernel
theorem dX6_readTest_75 : decode cX6_readTest 75 = .ok (.putfield 243, 3) := by decide +kernel
theorem dX6_readTest_78 : decode cX6_readTest 78 = .ok (.aload_n 0, 1) := by decide +kernel
theorem dX6_readTest_79 : decode cX6_readTest 79 = .ok (.invokevirtual 121, 3) := by decide +kernel
theorem dX6_readTest_82 : decode cX6_readTest 82 = .ok (.aload_n 0, 1) := by decide +kernel
theorem dX6_readTest_83 : decode cX6_readTest 83 = .ok (.getfield 81, 3) := by decide +kernel
theorem dX6_readTest_86 : decode cX6_readTest 86 = .ok (.sipush 212, 3) := by decide +kernel
theorem dX6_readTest_89 : decode cX6_readTest 89 = .ok (.if_icmp .ne 19, 3) := by decide +kernel
theorem dX6_readTest_92 : decode cX6_readTest 92 = .ok (.aload_n 0, 1) := by decide +kernel
theorem dX6_readTest_93 : decode cX6_readTest 93 = .ok (.invokevirtual 121, 3) := by decide +kernel
theorem dX6_readTest_96 : decode cX6_readTest 96 = .ok (.aload 4, 2) := by decide +kernel
theorem dX6_readTest_98 : decode cX6_readTest 98 = .ok (.aload_n 0, 1) := by decide +kernel
theorem dX6_readTest_99 : decode cX6_readTest 99 = .ok (.iconst 1, 1) := by decide +kernel
theorem dX6_readTest_100 : decode cX6_readTest 100 = .ok (.ldc 246, 2) := by decide +kernel
theorem dX6_readTest_102 : decode cX6_readTest 102 = .ok (.invokevirtual 211, 3) := by decide +kernel
theorem dX6_readTest_105 : decode cX6_readTest 105 = .ok (.putfield 247, 3) := by decide +kernel
theorem dX6_readTest_108 : decode cX6_readTest 108 = .ok (.aload_n 0, 1) := by decide +kernel
theorem dX6_readTest_109 : decode cX6_readTest 109 = .ok (.getfield 81, 3) := by decide +kernel
theorem dX6_readTest_112 : decode cX6_readTest 112 = .ok (.sipush 213, 3) := by decide +kernel
theorem dX6_readTest_115 : decode cX6_readTest 115 = .ok (.if_icmp .ne 13, 3) := by decide +kernel
theorem dX6_readTest_118 : decode cX6_readTest 118 = .ok (.aload_n 0, 1) := by decide +kernel
theorem dX6_readTest_119 : decode cX6_readTest 119 = .ok (.invokevirtual 121, 3) := by decide +kernel
theorem dX6_readTest_122 : decode cX6_readTest 122 = .ok (.aload_n 0, 1) := by decide +kernel
theorem dX6_readTest_123 : decode cX6_readTest 123 = .ok (.aload 4, 2) := by decide +kernel
theorem dX6_readTest_125 : decode cX6_readTest 125 = .ok (.invokevirtual 250, 3) := by decide +kernel
theorem dX6_readTest_128 : decode cX6_readTest 128 = .ok (.iload_n 1, 1) := by decide +kernel
theorem dX6_readTest_129 : decode cX6_readTest 129 = .ok (.istore 5, 2) := by decide +kernel
theorem dX6_readTest_131 : decode cX6_readTest 131 = .ok (.iload 5, 2) := by decide +kernel
theorem dX6_readTest_133 : decode cX6_readTest 133 = .ok (.aload_n 0, 1) := by decide +kernel
theorem dX6_readTest_134 : decode cX6_readTest 134 = .ok (.getfield 56, 3) := by decide +kernel
theorem dX6_readTest_137 : decode cX6_readTest 137 = .ok (.invokevirtual 94, 3) := by decide +kernel
theorem dX6_readTest_140 : decode cX6_readTest 140 = .ok (.if_icmp .ge 28, 3) := by decide +kernel
theorem dX6_readTest_143 : decode cX6_readTest 143 = .ok (.aload_n 0, 1) := by decide +kernel
theorem dX6_readTest_144 : decode cX6_readTest 144 = .ok (.getfield 56, 3) := by decide +kernel
theorem dX6_readTest_147 : decode cX6_readTest 147 = .ok (.iload 5, 2) := by decide +kernel
theorem dX6_readTest_149 : decode cX6_readTest 149 = .ok (.invokevirtual 97, 3) := by decide +kernel
theorem dX6_readTest_152 : decode cX6_readTest 152 = .ok (.checkcast 135, 3) := by decide +kernel
theorem dX6_readTest_155 : decode cX6_readTest 155 = .ok (.aload_n 0, 1) := by decide +kernel
theorem dX6_readTest_156 : decode cX6_readTest 156 = .ok (.getfield 62, 3) := by decide +kernel
theorem dX6_readTest_159 : decode cX6_readTest 159 = .ok (.putfield 218, 3) := by decide +kernel
theorem dX6_readTest_162 : decode cX6_readTest 162 = .ok (.iinc 5 1, 3) := by decide +kernel
theorem dX6_readTest_165 : decode cX6_readTest 165 = .ok (.goto (-34), 3) := by decide +kernel
theorem dX6_readTest_168 : decode cX6_readTest 168 = .ok (.aload_n 0, 1) := by decide +kernel
theorem dX6_readTest_169 : decode cX6_readTest 169 = .ok (.ldc2_w 254, 3) := by decide +kernel
theorem dX6_readTest_172 : decode cX6_readTest 172 = .ok (.invokevirtual 224, 3) := by decide +kernel
theorem dX6_readTest_175 : decode cX6_readTest 175 = .ok (.return_, 1) := by decide +kernel
theorem dX6_readWith_0 : decode cX6_readWith 0 = .ok (.aload_n 1, 1) := by decide +kernel
theorem dX6_readWith_1 : decode cX6_readWith 1 = .ok (.aload_n 0, 1) := by decide +kernel
theorem dX6_readWith_2 : decode cX6_readWith 2 = .ok (.invokevirtual 205, 3) := by decide +kernel
theorem dX6_readWith_5 : decode cX6_readWith 5 = .ok (.putfield 208, 3) := by decide +kernel
theorem dX6_readWith_8 : decode cX6_readWith 8 = .ok (.iconst 1, 1) := by decide +kernel
theorem dX6_readWith_9 : decode cX6_readWith 9 = .ok (.istore_n 2, 1) := by decide +kernel
theorem dX6_readWith_10 : decode cX6_readWith 10 = .ok (.iload_n 2, 1) := by decide +kernel
theorem dX6_readWith_11 : decode cX6_readWith 11 = .ok (.sipush 3000, 3) := by decide +kernel
theorem dX6_readWith_14 : decode cX6_readWith 14 = .ok (.if_icmp .ge 112, 3) := by decide +kernel
theorem dX6_readWith_17 : decode cX6_readWith 17 = .ok (.aload_n 0, 1) := by decide +kernel
theorem dX6_readWith_18 : decode cX6_readWith 18 = .ok (.getfield 81, 3) := by decide +kernel
theorem dX6_readWith_21 : decode cX6_readWith 21 = .ok (.bipush 44, 2) := by decide +kernel
theorem dX6_readWith_23 : decode cX6_readWith 23 = .ok (.if_icmp .ne 103, 3) := by decide +kernel
theorem dX6_readWith_26 : decode cX6_readWith 26 = .ok (.aload_n 0, 1) := by decide +kernel
theorem dX6_readWith_27 : decode cX6_readWith 27 = .ok (.invokevirtual 121, 3) := by decide +kernel
theorem dX6_readWith_30 : decode cX6_readWith 30 = .ok (.aload_n 0, 1) := by decide +kernel
theorem dX6_readWith_31 : decode cX6_readWith 31 = .ok (.getfield 81, 3) := by decide +kernel
theorem dX6_readWith_34 : decode cX6_readWith 34 = .ok (.bipush 45, 2) := by decide +kernel
theorem dX6_readWith_36 : decode cX6_readWith 36 = .ok (.if_icmp .eq 11, 3) := by decide +kernel
theorem dX6_readWith_39 : decode cX6_readWith 39 = .ok (.aload_n 0, 1) := by decide +kernel
theorem dX6_readWith_40 : decode cX6_readWith 40 = .ok (.getfield 81, 3) := by decide +kernel
theorem dX6_readWith_43 : decode cX6_readWith 43 = .ok (.iconst 4, 1) := by decide +kernel
theorem dX6_readWith_44 : decode cX6_readWith 44 = .ok (.if_icmp .ne 26, 3) := by decide +kernel
theorem dX6_readWith_47 : decode cX6_readWith 47 = .ok (.iload_n 2, 1) := by decide +kernel
theorem dX6_readWith_48 : decode cX6_readWith 48 = .ok (.iconst 4, 1) := by decide +kernel
theorem dX6_readWith_49 : decode cX6_readWith 49 = .ok (.if_icmp .ge 15, 3) := by decide +kernel
theorem dX6_readWith_52 : decode cX6_readWith 52 = .ok (.aload_n 0, 1) := by decide +kernel
theorem dX6_readWith_53 : decode cX6_readWith 53 = .ok (.getfield 56, 3) := by decide +kernel
theorem dX6_readWith_56 : decode cX6_readWith 56 = .ok (.invokevirtual 94, 3) := by decide +kernel
theorem dX6_readWith_59 : decode cX6_readWith 59 = .ok (.bipush 16, 2) := by decide +kernel
theorem dX6_readWith_61 : decode cX6_readWith 61 = .ok (.if_icmp .lt 9, 3) := by decide +kernel
theorem dX6_readWith_64 : decode cX6_readWith 64 = .ok (.aload_n 0, 1) := by decide +kernel
theorem dX6_readWith_65 : decode cX6_readWith 65 = .ok (.bipush 6, 2) := by decide +kernel
theorem dX6_readWith_67 : decode cX6_readWith 67 = .ok (.invokevirtual 109, 3) := by decide +kernel
theorem dX6_readWith_70 : decode cX6_readWith 70 = .ok (.new 135, 3) := by decide +kernel
theorem dX6_readWith_73 : decode cX6_readWith 73 = .ok (.dup, 1) := by decide +kernel
theorem dX6_readWith_74 : decode cX6_readWith 74 = .ok (.aload_n 1, 1) := by decide +kernel
theorem dX6_readWith_75 : decode cX6_readWith 75 = .ok (.getfield 140, 3) := by decide +kernel
theorem dX6_readWith_78 : decode cX6_readWith 78 = .ok (.aload_n 1, 1) := by decide +kernel
theorem dX6_readWith_79 : decode cX6_readWith 79 = .ok (.getfield 137, 3) := by decide +kernel
theorem dX6_readWith_82 : decode cX6_readWith 82 = .ok (.iconst 5, 1) := by decide +kernel
theorem dX6_readWith_83 : decode cX6_readWith 83 = .ok (.invokespecial 196, 3) := by decide +kernel
theorem dX6_readWith_86 : decode cX6_readWith 86 = .ok (.astore_n 3, 1) := by decide +kernel
theorem dX6_readWith_87 : decode cX6_readWith 87 = .ok (.aload_n 3, 1) := by decide +kernel
theorem dX6_readWith_88 : decode cX6_readWith 88 = .ok (.aload_n 1, 1) := by decide +kernel
theorem dX6_readWith_89 : decode cX6_readWith 89 = .ok (.getfield 243, 3) := by decide +kernel
theorem dX6_readWith_92 : decode cX6_readWith 92 = .ok (.putfield 243, 3) := by decide +kernel
theorem dX6_readWith_95 : decode cX6_readWith 95 = .ok (.aload_n 3, 1) := by decide +kernel
theorem dX6_readWith_96 : decode cX6_readWith 96 = .ok (.aload_n 1, 1) := by decide +kernel
theorem dX6_readWith_97 : decode cX6_readWith 97 = .ok (.getfield 247, 3) := by decide +kernel
theorem dX6_readWith_100 : decode cX6_readWith 100 = .ok (.putfield 247, 3) := by decide +kernel
theorem dX6_readWith_103 : decode cX6_readWith 103 = .ok (.aload_n 3, 1) := by decide +kernel
theorem dX6_readWith_104 : decode cX6_readWith 104 = .ok (.aload_n 0, 1) := by decide +kernel
theorem dX6_readWith_105 : decode cX6_readWith 105 = .ok (.invokevirtual 205, 3) := by decide +kernel
theorem dX6_readWith_108 : decode cX6_readWith 108 = .ok (.putfield 208, 3) := by decide +kernel
theorem dX6_readWith_111 : decode cX6_readWith 111 = .ok (.aload_n 0, 1) := by decide +kernel
theorem dX6_readWith_112 : decode cX6_readWith 112 = .ok (.getfield 56, 3) := by decide +kernel
theorem dX6_readWith_115 : decode cX6_readWith 115 = .ok (.aload_n 3, 1) := by decide +kernel
theorem dX6_readWith_116 : decode cX6_readWith 116 = .ok (.invokevirtual 159, 3) := by decide +kernel
theorem dX6_readWith_119 : decode cX6_readWith 119 = .ok (.pop, 1) := by decide +kernel
theorem dX6_readWith_120 : decode cX6_readWith 120 = .ok (.iinc 2 1, 3) := by decide +kernel
theorem dX6_readWith_123 : decode cX6_readWith 123 = .ok (.goto (-113), 3) := by decide +kernel
theorem dX6_readWith_126 : decode cX6_readWith 126 = .ok (.return_, 1) := by decide +kernel
theorem dX6_readProp_0 : decode cX6_readProp 0 = .ok (.aload_n 0, 1) := by decide +kernel
theorem dX6_readProp_1 : decode cX6_readProp 1 = .ok (.invokevirtual 121, 3) := by decide +kernel
theorem dX6_readProp_4 : decode cX6_readProp 4 = .ok (.new 135, 3) := by decide +kernel
theorem dX6_readProp_7 : decode cX6_readProp 7 = .ok (.dup, 1) := by decide +kernel
theorem dX6_readProp_8 : decode cX6_readProp 8 = .ok (.aload_n 0, 1) := by decide +kernel
theorem dX6_readProp_9 : decode cX6_readProp 9 = .ok (.aload_n 0, 1) := by decide +kernel
theorem dX6_readProp_10 : decode cX6_readProp 10 = .ok (.invokevirtual 192, 3) := by decide +kernel
theorem dX6_readProp_13 : decode cX6_readProp 13 = .ok (.aload_n 0, 1) := by decide +kernel
theorem dX6_readProp_14 : decode cX6_readProp 14 = .ok (.getfield 59, 3) := by decide +kernel
theorem dX6_readProp_17 : decode cX6_readProp 17 = .ok (.invokevirtual 94, 3) := by decide +kernel
theorem dX6_readProp_20 : decode cX6_readProp 20 = .ok (.bipush 6, 2) := by decide +kernel
theorem dX6_readProp_22 : decode cX6_readProp 22 = .ok (.if_icmp .lt 7, 3) := by decide +kernel
theorem dX6_readProp_25 : decode cX6_readProp 25 = .ok (.iconst 1, 1) := by decide +kernel
theorem dX6_readProp_26 : decode cX6_readProp 26 = .ok (.goto 4, 3) := by decide +kernel
theorem dX6_readProp_29 : decode cX6_readProp 29 = .ok (.iconst 0, 1) := by decide +kernel
theorem dX6_readProp_30 : decode cX6_readProp 30 = .ok (.invokevirtual 152, 3) := by decide +kernel
theorem dX6_readProp_33 : decode cX6_readProp 33 = .ok (.aload_n 0, 1) := by decide +kernel
theorem dX6_readProp_34 : decode cX6_readProp 34 = .ok (.getfield 49, 3) := by decide +kernel
theorem dX6_readProp_37 : decode cX6_readProp 37 = .ok (.invokevirtual 94, 3) := by decide +kernel
theorem dX6_readProp_40 : decode cX6_readProp 40 = .ok (.iconst 1, 1) := by decide +kernel
theorem dX6_readProp_41 : decode cX6_readProp 41 = .ok (.isub, 1) := by decide +kernel
theorem dX6_readProp_42 : decode cX6_readProp 42 = .ok (.bipush 6, 2) := by decide +kernel
theorem dX6_readProp_44 : decode cX6_readProp 44 = .ok (.invokespecial 196, 3) := by decide +kernel
theorem dX6_readProp_47 : decode cX6_readProp 47 = .ok (.astore_n 1, 1) := by decide +kernel
theorem dX6_readProp_48 : decode cX6_readProp 48 = .ok (.aload_n 0, 1) := by decide +kernel
theorem dX6_readProp_49 : decode cX6_readProp 49 = .ok (.getfield 59, 3) := by decide +kernel
theorem dX6_readProp_52 : decode cX6_readProp 52 = .ok (.aload_n 1, 1) := by decide +kernel
theorem dX6_readProp_53 : decode cX6_readProp 53 = .ok (.invokevirtual 159, 3) := by decide +kernel
theorem dX6_readProp_56 : decode cX6_readProp 56 = .ok (.pop, 1) := by decide +kernel
theorem dX6_readProp_57 : decode cX6_readProp 57 = .ok (.aload_n 0, 1) := by decide +kernel
theorem dX6_readProp_58 : decode cX6_readProp 58 = .ok (.bipush 40, 2) := by decide +kernel
theorem dX6_readProp_60 : decode cX6_readProp 60 = .ok (.invokevirtual 90, 3) := by decide +kernel
theorem dX6_readProp_63 : decode cX6_readProp 63 = .ok (.aload_n 0, 1) := by decide +kernel
theorem dX6_readProp_64 : decode cX6_readProp 64 = .ok (.invokevirtual 215, 3) := by decide +kernel
theorem dX6_readProp_67 : decode cX6_readProp 67 = .ok (.aload_n 0, 1) := by decide +kernel
theorem dX6_readProp_68 : decode cX6_readProp 68 = .ok (.bipush 41, 2) := by decide +kernel
theorem dX6_readProp_70 : decode cX6_readProp 70 = .ok (.invokevirtual 90, 3) := by decide +kernel
theorem dX6_readProp_73 : decode cX6_readProp 73 = .ok (.aload_n 1, 1) := by decide +kernel
theorem dX6_readProp_74 : decode cX6_readProp 74 = .ok (.aload_n 0, 1) := by decide +kernel
theorem dX6_readProp_75 : decode cX6_readProp 75 = .ok (.getfield 145, 3) := by decide +kernel
theorem dX6_readProp_78 : decode cX6_readProp 78 = .ok (.putfield 208, 3) := by decide +kernel
theorem dX6_readProp_81 : decode cX6_readProp 81 = .ok (.aload_n 1, 1) := by decide +kernel
theorem dX6_readProp_82 : decode cX6_readProp 82 = .ok (.aload_n 0, 1) := by decide +kernel
theorem dX6_readProp_83 : decode cX6_readProp 83 = .ok (.getfield 62, 3) := by decide +kernel
theorem dX6_readProp_86 : decode cX6_readProp 86 = .ok (.putfield 218, 3) := by decide +kernel
theorem dX6_readProp_89 : decode cX6_readProp 89 = .ok (.return_, 1) := by decide +kernel
theorem dX6_emit_0 : decode cX6_emit 0 = .ok (.aload_n 0, 1) := by decide +kernel
theorem dX6_emit_1 : decode cX6_emit 1 = .ok (.getfield 62, 3) := by decide +kernel
theorem dX6_emit_4 : decode cX6_emit 4 = .ok (.sipush 4096, 3) := by decide +kernel
theorem dX6_emit_7 : decode cX6_emit 7 = .ok (.if_icmp .lt 7, 3) := by decide +kernel
theorem dX6_emit_10 : decode cX6_emit 10 = .ok (.sipush 4095, 3) := by decide +kernel
theorem dX6_emit_13 : decode cX6_emit 13 = .ok (.ireturn, 1) := by decide +kernel
theorem dX6_emit_14 : decode cX6_emit 14 = .ok (.aload_n 0, 1) := by decide +kernel
theorem dX6_emit_15 : decode cX6_emit 15 = .ok (.getfield 18, 3) := by decide +kernel
theorem dX6_emit_18 : decode cX6_emit 18 = .ok (.aload_n 0, 1) := by decide +kernel
theorem dX6_emit_19 : decode cX6_emit 19 = .ok (.getfield 62, 3) := by decide +kernel
theorem dX6_emit_22 : decode cX6_emit 22 = .ok (.iload_n 1, 1) := by decide +kernel
theorem dX6_emit_23 : decode cX6_emit 23 = .ok (.iastore, 1) := by decide +kernel
theorem dX6_emit_24 : decode cX6_emit 24 = .ok (.aload_n 0, 1) := by decide +kernel
theorem dX6_emit_25 : decode cX6_emit 25 = .ok (.getfield 22, 3) := by decide +kernel
theorem dX6_emit_28 : decode cX6_emit 28 = .ok (.aload_n 0, 1) := by decide +kernel
theorem dX6_emit_29 : decode cX6_emit 29 = .ok (.getfield 62, 3) := by decide +kernel
theorem dX6_emit_32 : decode cX6_emit 32 = .ok (.iload_n 2, 1) := by decide +kernel
theorem dX6_emit_33 : decode cX6_emit 33 = .ok (.iastore, 1) := by decide +kernel
theorem dX6_emit_34 : decode cX6_emit 34 = .ok (.aload_n 0, 1) := by decide +kernel
theorem dX6_emit_35 : decode cX6_emit 35 = .ok (.getfield 25, 3) := by decide +kernel
theorem dX6_emit_38 : decode cX6_emit 38 = .ok (.aload_n 0, 1) := by decide +kernel
theorem dX6_emit_39 : decode cX6_emit 39 = .ok (.getfield 62, 3) := by decide +kernel
theorem dX6_emit_42 : decode cX6_emit 42 = .ok (.bipush (-2), 2) := by decide +kernel
theorem dX6_emit_44 : decode cX6_emit 44 = .ok (.iastore, 1) := by decide +kernel
theorem dX6_emit_45 : decode cX6_emit 45 = .ok (.aload_n 0, 1) := by decide +kernel
theorem dX6_emit_46 : decode cX6_emit 46 = .ok (.dup, 1) := by decide +kernel
theorem dX6_emit_47 : decode cX6_emit 47 = .ok (.getfield 62, 3) := by decide +kernel
theorem dX6_emit_50 : decode cX6_emit 50 = .ok (.iconst 1, 1) := by decide +kernel
theorem dX6_emit_51 : decode cX6_emit 51 = .ok (.iadd, 1) := by decide +kernel
theorem dX6_emit_52 : decode cX6_emit 52 = .ok (.putfield 62, 3) := by decide +kernel
theorem dX6_emit_55 : decode cX6_emit 55 = .ok (.aload_n 0, 1) := by decide +kernel
theorem dX6_emit_56 : decode cX6_emit 56 = .ok (.getfield 62, 3) := by decide +kernel
theorem dX6_emit_59 : decode cX6_emit 59 = .ok (.iconst 1, 1) := by decide +kernel
theorem dX6_emit_60 : decode cX6_emit 60 = .ok (.isub, 1) := by decide +kernel
theorem dX6_emit_61 : decode cX6_emit 61 = .ok (.ireturn, 1) := by decide +kernel
theorem dX6_endCode_0 : decode cX6_endCode 0 = .ok (.aload_n 0, 1) := by decide +kernel
theorem dX6_endCode_1 : decode cX6_endCode 1 = .ok (.iconst 0, 1) := by decide +kernel
theorem dX6_endCode_2 : decode cX6_endCode 2 = .ok (.iconst 0, 1) := by decide +kernel
theorem dX6_endCode_3 : decode cX6_endCode 3 = .ok (.invokevirtual 256, 3) := by decide +kernel
theorem dX6_endCode_6 : decode cX6_endCode 6 = .ok (.pop, 1) := by decide +kernel
theorem dX6_endCode_7 : decode cX6_endCode 7 = .ok (.aload_n 0, 1) := by decide +kernel
theorem dX6_endCode_8 : decode cX6_endCode 8 = .ok (.bipush 8, 2) := by decide +kernel
theorem dX6_endCode_10 : decode cX6_endCode 10 = .ok (.iconst 0, 1) := by decide +kernel
theorem dX6_endCode_11 : decode cX6_endCode 11 = .ok (.invokevirtual 256, 3) := by decide +kernel
theorem dX6_endCode_14 : decode cX6_endCode 14 = .ok (.pop, 1) := by decide +kernel
theorem dX6_endCode_15 : decode cX6_endCode 15 = .ok (.aload_n 0, 1) := by decide +kernel
theorem dX6_endCode_16 : decode cX6_endCode 16 = .ok (.getfield 81, 3) := by decide +kernel
theorem dX6_endCode_19 : decode cX6_endCode 19 = .ok (.bipush 125, 2) := by decide +kernel
theorem dX6_endCode_21 : decode cX6_endCode 21 = .ok (.if_icmp .ne 34, 3) := by decide +kernel
theorem dX6_endCode_24 : decode cX6_endCode 24 = .ok (.aload_n 0, 1) := by decide +kernel
theorem dX6_endCode_25 : decode cX6_endCode 25 = .ok (.getfield 62, 3) := by decide +kernel
theorem dX6_endCode_28 : decode cX6_endCode 28 = .ok (.aload_n 0, 1) := by decide +kernel
theorem dX6_endCode_29 : decode cX6_endCode 29 = .ok (.getfield 170, 3) := by decide +kernel
theorem dX6_endCode_32 : decode cX6_endCode 32 = .ok (.isub, 1) := by decide +kernel
theorem dX6_endCode_33 : decode cX6_endCode 33 = .ok (.sipush 200, 3) := by decide +kernel
theorem dX6_endCode_36 : decode cX6_endCode 36 = .ok (.if_icmp .gt 13, 3) := by decide +kernel
theorem dX6_endCode_39 : decode cX6_endCode 39 = .ok (.aload_n 0, 1) := by decide +kernel
theorem dX6_endCode_40 : decode cX6_endCode 40 = .ok (.getfield 62, 3) := by decide +kernel
theorem dX6_endCode_43 : decode cX6_endCode 43 = .ok (.sipush 1000, 3) := by decide +kernel
theorem dX6_endCode_46 : decode cX6_endCode 46 = .ok (.if_icmp .le 9, 3) := by decide +kernel
theorem dX6_endCode_49 : decode cX6_endCode 49 = .ok (.aload_n 0, 1) := by decide +kernel
theorem dX6_endCode_50 : decode cX6_endCode 50 = .ok (.bipush 6, 2) := by decide +kernel
theorem dX6_endCode_52 : decode cX6_endCode 52 = .ok (.invokevirtual 109, 3) := by decide +kernel
theorem dX6_endCode_55 : decode cX6_endCode 55 = .ok (.return_, 1) := by decide +kernel
theorem dX6_block_0 : decode cX6_block 0 = .ok (.aload_n 0, 1) := by decide +kernel
theorem dX6_block_1 : decode cX6_block 1 = .ok (.bipush 123, 2) := by decide +kernel
theorem dX6_block_3 : decode cX6_block 3 = .ok (.iload_n 1, 1) := by decide +kernel
theorem dX6_block_4 : decode cX6_block 4 = .ok (.invokevirtual 259, 3) := by decide +kernel
theorem dX6_block_7 : decode cX6_block 7 = .ok (.aload_n 0, 1) := by decide +kernel
theorem dX6_block_8 : decode cX6_block 8 = .ok (.getfield 145, 3) := by decide +kernel
theorem dX6_block_11 : decode cX6_block 11 = .ok (.istore_n 2, 1) := by decide +kernel
theorem dX6_block_12 : decode cX6_block 12 = .ok (.iconst 0, 1) := by decide +kernel
theorem dX6_block_13 : decode cX6_block 13 = .ok (.istore_n 3, 1) := by decide +kernel
theorem dX6_block_14 : decode cX6_block 14 = .ok (.iload_n 3, 1) := by decide +kernel
theorem dX6_block_15 : decode cX6_block 15 = .ok (.sipush 3000, 3) := by decide +kernel
theorem dX6_block_18 : decode cX6_block 18 = .ok (.if_icmp .ge 33, 3) := by decide +kernel
theorem dX6_block_21 : decode cX6_block 21 = .ok (.aload_n 0, 1) := by decide +kernel
theorem dX6_block_22 : decode cX6_block 22 = .ok (.getfield 81, 3) := by decide +kernel
theorem dX6_block_25 : decode cX6_block 25 = .ok (.bipush 125, 2) := by decide +kernel
theorem dX6_block_27 : decode cX6_block 27 = .ok (.if_icmp .eq 24, 3) := by decide +kernel
theorem dX6_block_30 : decode cX6_block 30 = .ok (.aload_n 0, 1) := by decide +kernel
theorem dX6_block_31 : decode cX6_block 31 = .ok (.getfield 81, 3) := by decide +kernel
theorem dX6_block_34 : decode cX6_block 34 = .ok (.iconst 2, 1) := by decide +kernel
theorem dX6_block_35 : decode cX6_block 35 = .ok (.if_icmp .eq 16, 3) := by decide +kernel
theorem dX6_block_38 : decode cX6_block 38 = .ok (.aload_n 0, 1) := by decide +kernel
theorem dX6_block_39 : decode cX6_block 39 = .ok (.iload_n 1, 1) := by decide +kernel
theorem dX6_block_40 : decode cX6_block 40 = .ok (.iconst 1, 1) := by decide +kernel
theorem dX6_block_41 : decode cX6_block 41 = .ok (.iadd, 1) := by decide +kernel
theorem dX6_block_42 : decode cX6_block 42 = .ok (.invokevirtual 263, 3) := by decide +kernel
theorem dX6_block_45 : decode cX6_block 45 = .ok (.iinc 3 1, 3) := by decide +kernel
theorem dX6_block_48 : decode cX6_block 48 = .ok (.goto (-34), 3) := by decide +kernel
theorem dX6_block_51 : decode cX6_block 51 = .ok (.iload_n 1, 1) := by decide +kernel
theorem dX6_block_52 : decode cX6_block 52 = .ok (.ifCond .ne 7, 3) := by decide +kernel
theorem dX6_block_55 : decode cX6_block 55 = .ok (.aload_n 0, 1) := by decide +kernel
theorem dX6_block_56 : decode cX6_block 56 = .ok (.invokevirtual 266, 3) := by decide +kernel
theorem dX6_block_59 : decode cX6_block 59 = .ok (.aload_n 0, 1) := by decide +kernel
theorem dX6_block_60 : decode cX6_block 60 = .ok (.bipush 125, 2) := by decide +kernel
theorem dX6_block_62 : decode cX6_block 62 = .ok (.invokevirtual 90, 3) := by decide +kernel
theorem dX6_block_65 : decode cX6_block 65 = .ok (.aload_n 0, 1) := by decide +kernel
theorem dX6_block_66 : decode cX6_block 66 = .ok (.iload_n 2, 1) := by decide +kernel
theorem dX6_block_67 : decode cX6_block 67 = .ok (.putfield 145, 3) := by decide +kernel
theorem dX6_block_70 : decode cX6_block 70 = .ok (.return_, 1) := by decide +kernel
theorem dX6_statement_0 : decode cX6_statement 0 = .ok (.aload_n 0, 1) := by decide +kernel
theorem dX6_statement_1 : decode cX6_statement 1 = .ok (.getfield 81, 3) := by decide +kernel
theorem dX6_statement_4 : decode cX6_statement 4 = .ok (.lookupswitch 146 #[(3, 84), (215, 76), (216, 92), (218, 100), (219, 108), (220, 118), (221, 128), (222, 138)], 76) := by decide +kernel
theorem dX6_statement_80 : decode cX6_statement 80 = .ok (.aload_n 0, 1) := by decide +kernel
theorem dX6_statement_81 : decode cX6_statement 81 = .ok (.iload_n 1, 1) := by decide +kernel
theorem dX6_statement_82 : decode cX6_statement 82 = .ok (.invokevirtual 268, 3) := by decide +kernel
theorem dX6_statement_85 : decode cX6_statement 85 = .ok (.goto 70, 3) := by decide +kernel
theorem dX6_statement_88 : decode cX6_statement 88 = .ok (.aload_n 0, 1) := by decide +kernel
theorem dX6_statement_89 : decode cX6_statement 89 = .ok (.iload_n 1, 1) := by decide +kernel
theorem dX6_statement_90 : decode cX6_statement 90 = .ok (.invokevirtual 271, 3) := by decide +kernel
theorem dX6_statement_93 : decode cX6_statement 93 = .ok (.goto 62, 3) := by decide +kernel
theorem dX6_statement_96 : decode cX6_statement 96 = .ok (.aload_n 0, 1) := by decide +kernel
theorem dX6_statement_97 : decode cX6_statement 97 = .ok (.iload_n 1, 1) := by decide +kernel
theorem dX6_statement_98 : decode cX6_statement 98 = .ok (.invokevirtual 274, 3) := by decide +kernel
theorem dX6_statement_101 : decode cX6_statement 101 = .ok (.goto 54, 3) := by decide +kernel
theorem dX6_statement_104 : decode cX6_statement 104 = .ok (.aload_n 0, 1) := by decide +kernel
theorem dX6_statement_105 : decode cX6_statement 105 = .ok (.iload_n 1, 1) := by decide +kernel
theorem dX6_statement_106 : decode cX6_statement 106 = .ok (.invokevirtual 277, 3) := by decide +kernel
theorem dX6_statement_109 : decode cX6_statement 109 = .ok (.goto 46, 3) := by decide +kernel
theorem dX6_statement_112 : decode cX6_statement 112 = .ok (.aload_n 0, 1) := by decide +kernel
theorem dX6_statement_113 : decode cX6_statement 113 = .ok (.bipush 8, 2) := by decide +kernel
theorem dX6_statement_115 : decode cX6_statement 115 = .ok (.iload_n 1, 1) := by decide +kernel
theorem dX6_statement_116 : decode cX6_statement 116 = .ok (.invokevirtual 280, 3) := by decide +kernel
theorem dX6_statement_119 : decode cX6_statement 119 = .ok (.goto 36, 3) := by decide +kernel
theorem dX6_statement_122 : decode cX6_statement 122 = .ok (.aload_n 0, 1) := by decide +kernel
theorem dX6_statement_123 : decode cX6_statement 123 = .ok (.bipush 28, 2) := by decide +kernel
theorem dX6_statement_125 : decode cX6_statement 125 = .ok (.iload_n 1, 1) := by decide +kernel
theorem dX6_statement_126 : decode cX6_statement 126 = .ok (.invokevirtual 280, 3) := by decide +kernel
theorem dX6_statement_129 : decode cX6_statement 129 = .ok (.goto 26, 3) := by decide +kernel
theorem dX6_statement_132 : decode cX6_statement 132 = .ok (.aload_n 0, 1) := by decide +kernel
theorem dX6_statement_133 : decode cX6_statement 133 = .ok (.bipush 29, 2) := by decide +kernel
theorem dX6_statement_135 : decode cX6_statement 135 = .ok (.iload_n 1, 1) := by decide +kernel
theorem dX6_statement_136 : decode cX6_statement 136 = .ok (.invokevirtual 280, 3) := by decide +kernel
theorem dX6_statement_139 : decode cX6_statement 139 = .ok (.goto 16, 3) := by decide +kernel
theorem dX6_statement_142 : decode cX6_statement 142 = .ok (.aload_n 0, 1) := by decide +kernel
theorem dX6_statement_143 : decode cX6_statement 143 = .ok (.iload_n 1, 1) := by decide +kernel
theorem dX6_statement_144 : decode cX6_statement 144 = .ok (.invokevirtual 283, 3) := by decide +kernel
theorem dX6_statement_147 : decode cX6_statement 147 = .ok (.goto 8, 3) := by decide +kernel
theorem dX6_statement_150 : decode cX6_statement 150 = .ok (.aload_n 0, 1) := by decide +kernel
theorem dX6_statement_151 : decode cX6_statement 151 = .ok (.iconst 2, 1) := by decide +kernel
theorem dX6_statement_152 : decode cX6_statement 152 = .ok (.invokevirtual 109, 3) := by decide +kernel
theorem dX6_statement_155 : decode cX6_statement 155 = .ok (.return_, 1) := by decide +kernel
theorem dX6_valueStatement_0 : decode cX6_valueStatement 0 = .ok (.aload_n 0, 1) := by decide +kernel
theorem dX6_valueStatement_1 : decode cX6_valueStatement 1 = .ok (.invokevirtual 121, 3) := by decide +kernel
theorem dX6_valueStatement_4 : decode cX6_valueStatement 4 = .ok (.aload_n 0, 1) := by decide +kernel
theorem dX6_valueStatement_5 : decode cX6_valueStatement 5 = .ok (.iconst 0, 1) := by decide +kernel
theorem dX6_valueStatement_6 : decode cX6_valueStatement 6 = .ok (.iload_n 2, 1) := by decide +kernel
theorem dX6_valueStatement_7 : decode cX6_valueStatement 7 = .ok (.invokevirtual 286, 3) := by decide +kernel
theorem dX6_valueStatement_10 : decode cX6_valueStatement 10 = .ok (.aload_n 0, 1) := by decide +kernel
theorem dX6_valueStatement_11 : decode cX6_valueStatement 11 = .ok (.bipush 59, 2) := by decide +kernel
theorem dX6_valueStatement_13 : decode cX6_valueStatement 13 = .ok (.invokevirtual 90, 3) := by decide +kernel
theorem dX6_valueStatement_16 : decode cX6_valueStatement 16 = .ok (.aload_n 0, 1) := by decide +kernel
theorem dX6_valueStatement_17 : decode cX6_valueStatement 17 = .ok (.iload_n 1, 1) := by decide +kernel
theorem dX6_valueStatement_18 : decode cX6_valueStatement 18 = .ok (.iconst 0, 1) := by decide +kernel
theorem dX6_valueStatement_19 : decode cX6_valueStatement 19 = .ok (.invokevirtual 256, 3) := by decide +kernel
theorem dX6_valueStatement_22 : decode cX6_valueStatement 22 = .ok (.pop, 1) := by decide +kernel
theorem dX6_valueStatement_23 : decode cX6_valueStatement 23 = .ok (.return_, 1) := by decide +kernel
theorem dX6_letStatement_0 : decode cX6_letStatement 0 = .ok (.aload_n 0, 1) := by decide +kernel
theorem dX6_letStatement_1 : decode cX6_letStatement 1 = .ok (.invokevirtual 121, 3) := by decide +kernel
theorem dX6_letStatement_4 : decode cX6_letStatement 4 = .ok (.aload_n 0, 1) := by decide +kernel
theorem dX6_letStatement_5 : decode cX6_letStatement 5 = .ok (.aload_n 0, 1) := by decide +kernel
theorem dX6_letStatement_6 : decode cX6_letStatement 6 = .ok (.aload_n 0, 1) := by decide +kernel
theorem dX6_letStatement_7 : decode cX6_letStatement 7 = .ok (.invokevirtual 127, 3) := by decide +kernel
theorem dX6_letStatement_10 : decode cX6_letStatement 10 = .ok (.invokevirtual 221, 3) := by decide +kernel
theorem dX6_letStatement_13 : decode cX6_letStatement 13 = .ok (.ifCond .lt 7, 3) := by decide +kernel
theorem dX6_letStatement_16 : decode cX6_letStatement 16 = .ok (.iconst 1, 1) := by decide +kernel
theorem dX6_letStatement_17 : decode cX6_letStatement 17 = .ok (.goto 4, 3) := by decide +kernel
theorem dX6_letStatement_20 : decode cX6_letStatement 20 = .ok (.iconst 0, 1) := by decide +kernel
theorem dX6_letStatement_21 : decode cX6_letStatement 21 = .ok (.aload_n 0, 1) := by decide +kernel
theorem dX6_letStatement_22 : decode cX6_letStatement 22 = .ok (.getfield 145, 3) := by decide +kernel
theorem dX6_letStatement_25 : decode cX6_letStatement 25 = .ok (.bipush 10, 2) := by decide +kernel
theorem dX6_letStatement_27 : decode cX6_letStatement 27 = .ok (.if_icmp .lt 7, 3) := by decide +kernel
theorem dX6_letStatement_30 : decode cX6_letStatement 30 = .ok (.iconst 1, 1) := by decide +kernel
theorem dX6_letStatement_31 : decode cX6_letStatement 31 = .ok (.goto 4, 3) := by decide +kernel
theorem dX6_letStatement_34 : decode cX6_letStatement 34 = .ok (.iconst 0, 1) := by decide +kernel
theorem dX6_letStatement_35 : decode cX6_letStatement 35 = .ok (.invokevirtual 152, 3) := by decide +kernel
theorem dX6_letStatement_38 : decode cX6_letStatement 38 = .ok (.lstore_n 2, 1) := by decide +kernel
theorem dX6_letStatement_39 : decode cX6_letStatement 39 = .ok (.aload_n 0, 1) := by decide +kernel
theorem dX6_letStatement_40 : decode cX6_letStatement 40 = .ok (.bipush 61, 2) := by decide +kernel
theorem dX6_letStatement_42 : decode cX6_letStatement 42 = .ok (.invokevirtual 90, 3) := by decide +kernel
theorem dX6_letStatement_45 : decode cX6_letStatement 45 = .ok (.aload_n 0, 1) := by decide +kernel
theorem dX6_letStatement_46 : decode cX6_letStatement 46 = .ok (.iconst 0, 1) := by decide +kernel
theorem dX6_letStatement_47 : decode cX6_letStatement 47 = .ok (.iload_n 1, 1) := by decide +kernel
theorem dX6_letStatement_48 : decode cX6_letStatement 48 = .ok (.invokevirtual 286, 3) := by decide +kernel
theorem dX6_letStatement_51 : decode cX6_letStatement 51 = .ok (.aload_n 0, 1) := by decide +kernel
theorem dX6_letStatement_52 : decode cX6_letStatement 52 = .ok (.bipush 59, 2) := by decide +kernel
theorem dX6_letStatement_54 : decode cX6_letStatement 54 = .ok (.invokevirtual 90, 3) := by decide +kernel
theorem dX6_letStatement_57 : decode cX6_letStatement 57 = .ok (.aload_n 0, 1) := by decide +kernel
theorem dX6_letStatement_58 : decode cX6_letStatement 58 = .ok (.iconst 2, 1) := by decide +kernel
theorem dX6_letStatement_59 : decode cX6_letStatement 59 = .ok (.aload_n 0, 1) := by decide +kernel
theorem dX6_letStatement_60 : decode cX6_letStatement 60 = .ok (.getfield 145, 3) := by decide +kernel
theorem dX6_letStatement_63 : decode cX6_letStatement 63 = .ok (.invokevirtual 256, 3) := by decide +kernel
theorem dX6_letStatement_66 : decode cX6_letStatement 66 = .ok (.pop, 1) := by decide +kernel
theorem dX6_letStatement_67 : decode cX6_letStatement 67 = .ok (.aload_n 0, 1) := by decide +kernel
theorem dX6_letStatement_68 : decode cX6_letStatement 68 = .ok (.lload_n 2, 1) := by decide +kernel
theorem dX6_letStatement_69 : decode cX6_letStatement 69 = .ok (.invokevirtual 224, 3) := by decide +kernel
theorem dX6_letStatement_72 : decode cX6_letStatement 72 = .ok (.return_, 1) := by decide +kernel
theorem dX6_ifStatement_0 : decode cX6_ifStatement 0 = .ok (.aload_n 0, 1) := by decide +kernel
theorem dX6_ifStatement_1 : decode cX6_ifStatement 1 = .ok (.invokevirtual 121, 3) := by decide +kernel
theorem dX6_ifStatement_4 : decode cX6_ifStatement 4 = .ok (.aload_n 0, 1) := by decide +kernel
theorem dX6_ifStatement_5 : decode cX6_ifStatement 5 = .ok (.iconst 0, 1) := by decide +kernel
theorem dX6_ifStatement_6 : decode cX6_ifStatement 6 = .ok (.iload_n 1, 1) := by decide +kernel
theorem dX6_ifStatement_7 : decode cX6_ifStatement 7 = .ok (.invokevirtual 286, 3) := by decide +kernel
theorem dX6_ifStatement_10 : decode cX6_ifStatement 10 = .ok (.aload_n 0, 1) := by decide +kernel
theorem dX6_ifStatement_11 : decode cX6_ifStatement 11 = .ok (.bipush 24, 2) := by decide +kernel
theorem dX6_ifStatement_13 : decode cX6_ifStatement 13 = .ok (.iconst 0, 1) := by decide +kernel
theorem dX6_ifStatement_14 : decode cX6_ifStatement 14 = .ok (.invokevirtual 256, 3) := by decide +kernel
theorem dX6_ifStatement_17 : decode cX6_ifStatement 17 = .ok (.istore_n 2, 1) := by decide +kernel
theorem dX6_ifStatement_18 : decode cX6_ifStatement 18 = .ok (.aload_n 0, 1) := by decide +kernel
theorem dX6_ifStatement_19 : decode cX6_ifStatement 19 = .ok (.iload_n 1, 1) := by decide +kernel
theorem dX6_ifStatement_20 : decode cX6_ifStatement 20 = .ok (.invokevirtual 186, 3) := by decide +kernel
theorem dX6_ifStatement_23 : decode cX6_ifStatement 23 = .ok (.aload_n 0, 1) := by decide +kernel
theorem dX6_ifStatement_24 : decode cX6_ifStatement 24 = .ok (.getfield 81, 3) := by decide +kernel
theorem dX6_ifStatement_27 : decode cX6_ifStatement 27 = .ok (.sipush 217, 3) := by decide +kernel
theorem dX6_ifStatement_30 : decode cX6_ifStatement 30 = .ok (.if_icmp .ne 43, 3) := by decide +kernel
theorem dX6_ifStatement_33 : decode cX6_ifStatement 33 = .ok (.aload_n 0, 1) := by decide +kernel
theorem dX6_ifStatement_34 : decode cX6_ifStatement 34 = .ok (.invokevirtual 121, 3) := by decide +kernel
theorem dX6_ifStatement_37 : decode cX6_ifStatement 37 = .ok (.aload_n 0, 1) := by decide +kernel
theorem dX6_ifStatement_38 : decode cX6_ifStatement 38 = .ok (.bipush 25, 2) := by decide +kernel
theorem dX6_ifStatement_40 : decode cX6_ifStatement 40 = .ok (.iconst 0, 1) := by decide +kernel
theorem dX6_ifStatement_41 : decode cX6_ifStatement 41 = .ok (.invokevirtual 256, 3) := by decide +kernel
theorem dX6_ifStatement_44 : decode cX6_ifStatement 44 = .ok (.istore_n 3, 1) := by decide +kernel
theorem dX6_ifStatement_45 : decode cX6_ifStatement 45 = .ok (.aload_n 0, 1) := by decide +kernel
theorem dX6_ifStatement_46 : decode cX6_ifStatement 46 = .ok (.getfield 22, 3) := by decide +kernel
theorem dX6_ifStatement_49 : decode cX6_ifStatement 49 = .ok (.iload_n 2, 1) := by decide +kernel
theorem dX6_ifStatement_50 : decode cX6_ifStatement 50 = .ok (.aload_n 0, 1) := by decide +kernel
theorem dX6_ifStatement_51 : decode cX6_ifStatement 51 = .ok (.getfield 62, 3) := by decide +kernel
theorem dX6_ifStatement_54 : decode cX6_ifStatement 54 = .ok (.iastore, 1) := by decide +kernel
theorem dX6_ifStatement_55 : decode cX6_ifStatement 55 = .ok (.aload_n 0, 1) := by decide +kernel
theorem dX6_ifStatement_56 : decode cX6_ifStatement 56 = .ok (.iload_n 1, 1) := by decide +kernel
theorem dX6_ifStatement_57 : decode cX6_ifStatement 57 = .ok (.invokevirtual 186, 3) := by decide +kernel
theorem dX6_ifStatement_60 : decode cX6_ifStatement 60 = .ok (.aload_n 0, 1) := by decide +kernel
theorem dX6_ifStatement_61 : decode cX6_ifStatement 61 = .ok (.getfield 22, 3) := by decide +kernel
theorem dX6_ifStatement_64 : decode cX6_ifStatement 64 = .ok (.iload_n 3, 1) := by decide +kernel
theorem dX6_ifStatement_65 : decode cX6_ifStatement 65 = .ok (.aload_n 0, 1) := by decide +kernel
theorem dX6_ifStatement_66 : decode cX6_ifStatement 66 = .ok (.getfield 62, 3) := by decide +kernel
theorem dX6_ifStatement_69 : decode cX6_ifStatement 69 = .ok (.iastore, 1) := by decide +kernel
theorem dX6_ifStatement_70 : decode cX6_ifStatement 70 = .ok (.goto 13, 3) := by decide +kernel
theorem dX6_ifStatement_73 : decode cX6_ifStatement 73 = .ok (.aload_n 0, 1) := by decide +kernel
theorem dX6_ifStatement_74 : decode cX6_ifStatement 74 = .ok (.getfield 22, 3) := by decide +kernel
theorem dX6_ifStatement_77 : decode cX6_ifStatement 77 = .ok (.iload_n 2, 1) := by decide +kernel
theorem dX6_ifStatement_78 : decode cX6_ifStatement 78 = .ok (.aload_n 0, 1) := by decide +kernel
theorem dX6_ifStatement_79 : decode cX6_ifStatement 79 = .ok (.getfield 62, 3) := by decide +kernel
theorem dX6_ifStatement_82 : decode cX6_ifStatement 82 = .ok (.iastore, 1) := by decide +kernel
theorem dX6_ifStatement_83 : decode cX6_ifStatement 83 = .ok (.return_, 1) := by decide +kernel
theorem dX6_whileStatement_0 : decode cX6_whileStatement 0 = .ok (.aload_n 0, 1) := by decide +kernel
theorem dX6_whileStatement_1 : decode cX6_whileStatement 1 = .ok (.invokevirtual 121, 3) := by decide +kernel
theorem dX6_whileStatement_4 : decode cX6_whileStatement 4 = .ok (.aload_n 0, 1) := by decide +kernel
theorem dX6_whileStatement_5 : decode cX6_whileStatement 5 = .ok (.getfield 62, 3) := by decide +kernel
theorem dX6_whileStatement_8 : decode cX6_whileStatement 8 = .ok (.istore_n 2, 1) := by decide +kernel
theorem dX6_whileStatement_9 : decode cX6_whileStatement 9 = .ok (.aload_n 0, 1) := by decide +kernel
theorem dX6_whileStatement_10 : decode cX6_whileStatement 10 = .ok (.iconst 0, 1) := by decide +kernel
theorem dX6_whileStatement_11 : decode cX6_whileStatement 11 = .ok (.iload_n 1, 1) := by decide +kernel
theorem dX6_whileStatement_12 : decode cX6_whileStatement 12 = .ok (.invokevirtual 286, 3) := by decide +kernel
theorem dX6_whileStatement_15 : decode cX6_whileStatement 15 = .ok (.aload_n 0, 1) := by decide +kernel
theorem dX6_whileStatement_16 : decode cX6_whileStatement 16 = .ok (.bipush 24, 2) := by decide +kernel
theorem dX6_whileStatement_18 : decode cX6_whileStatement 18 = .ok (.iconst 0, 1) := by decide +kernel
theorem dX6_whileStatement_19 : decode cX6_whileStatement 19 = .ok (.invokevirtual 256, 3) := by decide +kernel
theorem dX6_whileStatement_22 : decode cX6_whileStatement 22 = .ok (.istore_n 3, 1) := by decide +kernel
theorem dX6_whileStatement_23 : decode cX6_whileStatement 23 = .ok (.aload_n 0, 1) := by decide +kernel
theorem dX6_whileStatement_24 : decode cX6_whileStatement 24 = .ok (.iload_n 1, 1) := by decide +kernel
theorem dX6_whileStatement_25 : decode cX6_whileStatement 25 = .ok (.invokevirtual 186, 3) := by decide +kernel
theorem dX6_whileStatement_28 : decode cX6_whileStatement 28 = .ok (.aload_n 0, 1) := by decide +kernel
theorem dX6_whileStatement_29 : decode cX6_whileStatement 29 = .ok (.bipush 25, 2) := by decide +kernel
theorem dX6_whileStatement_31 : decode cX6_whileStatement 31 = .ok (.iload_n 2, 1) := by decide +kernel
theorem dX6_whileStatement_32 : decode cX6_whileStatement 32 = .ok (.invokevirtual 256, 3) := by decide +kernel
theorem dX6_whileStatement_35 : decode cX6_whileStatement 35 = .ok (.pop, 1) := by decide +kernel
theorem dX6_whileStatement_36 : decode cX6_whileStatement 36 = .ok (.aload_n 0, 1) := by decide +kernel
theorem dX6_whileStatement_37 : decode cX6_whileStatement 37 = .ok (.getfield 22, 3) := by decide +kernel
theorem dX6_whileStatement_40 : decode cX6_whileStatement 40 = .ok (.iload_n 3, 1) := by decide +kernel
theorem dX6_whileStatement_41 : decode cX6_whileStatement 41 = .ok (.aload_n 0, 1) := by decide +kernel
theorem dX6_whileStatement_42 : decode cX6_whileStatement 42 = .ok (.getfield 62, 3) := by decide +kernel
theorem dX6_whileStatement_45 : decode cX6_whileStatement 45 = .ok (.iastore, 1) := by decide +kernel
theorem dX6_whileStatement_46 : decode cX6_whileStatement 46 = .ok (.return_, 1) := by decide +kernel
theorem dX6_tryStatement_0 : decode cX6_tryStatement 0 = .ok (.aload_n 0, 1) := by decide +kernel
theorem dX6_tryStatement_1 : decode cX6_tryStatement 1 = .ok (.invokevirtual 121, 3) := by decide +kernel
theorem dX6_tryStatement_4 : decode cX6_tryStatement 4 = .ok (.aload_n 0, 1) := by decide +kernel
theorem dX6_tryStatement_5 : decode cX6_tryStatement 5 = .ok (.bipush 26, 2) := by decide +kernel
theorem dX6_tryStatement_7 : decode cX6_tryStatement 7 = .ok (.iconst 0, 1) := by decide +kernel
theorem dX6_tryStatement_8 : decode cX6_tryStatement 8 = .ok (.invokevirtual 256, 3) := by decide +kernel
theorem dX6_tryStatement_11 : decode cX6_tryStatement 11 = .ok (.istore_n 2, 1) := by decide +kernel
theorem dX6_tryStatement_12 : decode cX6_tryStatement 12 = .ok (.aload_n 0, 1) := by decide +kernel
theorem dX6_tryStatement_13 : decode cX6_tryStatement 13 = .ok (.iload_n 1, 1) := by decide +kernel
theorem dX6_tryStatement_14 : decode cX6_tryStatement 14 = .ok (.invokevirtual 186, 3) := by decide +kernel
theorem dX6_tryStatement_17 : decode cX6_tryStatement 17 = .ok (.aload_n 0, 1) := by decide +kernel
theorem dX6_tryStatement_18 : decode cX6_tryStatement 18 = .ok (.bipush 27, 2) := by decide +kernel
theorem dX6_tryStatement_20 : decode cX6_tryStatement 20 = .ok (.iconst 0, 1) := by decide +kernel
theorem dX6_tryStatement_21 : decode cX6_tryStatement 21 = .ok (.invokevirtual 256, 3) := by decide +kernel
theorem dX6_tryStatement_24 : decode cX6_tryStatement 24 = .ok (.istore_n 3, 1) := by decide +kernel
theorem dX6_tryStatement_25 : decode cX6_tryStatement 25 = .ok (.aload_n 0, 1) := by decide +kernel
theorem dX6_tryStatement_26 : decode cX6_tryStatement 26 = .ok (.bipush 25, 2) := by decide +kernel
theorem dX6_tryStatement_28 : decode cX6_tryStatement 28 = .ok (.iconst 0, 1) := by decide +kernel
theorem dX6_tryStatement_29 : decode cX6_tryStatement 29 = .ok (.invokevirtual 256, 3) := by decide +kernel
theorem dX6_tryStatement_32 : decode cX6_tryStatement 32 = .ok (.istore 4, 2) := by decide +kernel
theorem dX6_tryStatement_34 : decode cX6_tryStatement 34 = .ok (.aload_n 0, 1) := by decide +kernel
theorem dX6_tryStatement_35 : decode cX6_tryStatement 35 = .ok (.getfield 22, 3) := by decide +kernel
theorem dX6_tryStatement_38 : decode cX6_tryStatement 38 = .ok (.iload_n 2, 1) := by decide +kernel
theorem dX6_tryStatement_39 : decode cX6_tryStatement 39 = .ok (.aload_n 0, 1) := by decide +kernel
theorem dX6_tryStatement_40 : decode cX6_tryStatement 40 = .ok (.getfield 62, 3) := by decide +kernel
theorem dX6_tryStatement_43 : decode cX6_tryStatement 43 = .ok (.iastore, 1) := by decide +kernel
theorem dX6_tryStatement_44 : decode cX6_tryStatement 44 = .ok (.iload_n 2, 1) := by decide +kernel
theorem dX6_tryStatement_45 : decode cX6_tryStatement 45 = .ok (.iconst 1, 1) := by decide +kernel
theorem dX6_tryStatement_46 : decode cX6_tryStatement 46 = .ok (.iadd, 1) := by decide +kernel
theorem dX6_tryStatement_47 : decode cX6_tryStatement 47 = .ok (.istore 5, 2) := by decide +kernel
theorem dX6_tryStatement_49 : decode cX6_tryStatement 49 = .ok (.iload 5, 2) := by decide +kernel
theorem dX6_tryStatement_51 : decode cX6_tryStatement 51 = .ok (.iload_n 3, 1) := by decide +kernel
theorem dX6_tryStatement_52 : decode cX6_tryStatement 52 = .ok (.if_icmp .ge 32, 3) := by decide +kernel
theorem dX6_tryStatement_55 : decode cX6_tryStatement 55 = .ok (.aload_n 0, 1) := by decide +kernel
theorem dX6_tryStatement_56 : decode cX6_tryStatement 56 = .ok (.getfield 25, 3) := by decide +kernel
theorem dX6_tryStatement_59 : decode cX6_tryStatement 59 = .ok (.iload 5, 2) := by decide +kernel
theorem dX6_tryStatement_61 : decode cX6_tryStatement 61 = .ok (.iaload, 1) := by decide +kernel
theorem dX6_tryStatement_62 : decode cX6_tryStatement 62 = .ok (.bipush (-2), 2) := by decide +kernel
theorem dX6_tryStatement_64 : decode cX6_tryStatement 64 = .ok (.if_icmp .ne 14, 3) := by decide +kernel
theorem dX6_tryStatement_67 : decode cX6_tryStatement 67 = .ok (.aload_n 0, 1) := by decide +kernel
theorem dX6_tryStatement_68 : decode cX6_tryStatement 68 = .ok (.getfield 25, 3) := by decide +kernel
theorem dX6_tryStatement_71 : decode cX6_tryStatement 71 = .ok (.iload 5, 2) := by decide +kernel
theorem dX6_tryStatement_73 : decode cX6_tryStatement 73 = .ok (.aload_n 0, 1) := by decide +kernel
theorem dX6_tryStatement_74 : decode cX6_tryStatement 74 = .ok (.getfield 62, 3) := by decide +kernel
theorem dX6_tryStatement_77 : decode cX6_tryStatement 77 = .ok (.iastore, 1) := by decide +kernel
theorem dX6_tryStatement_78 : decode cX6_tryStatement 78 = .ok (.iinc 5 1, 3) := by decide +kernel
theorem dX6_tryStatement_81 : decode cX6_tryStatement 81 = .ok (.goto (-32), 3) := by decide +kernel
theorem dX6_tryStatement_84 : decode cX6_tryStatement 84 = .ok (.aload_n 0, 1) := by decide +kernel
theorem dX6_tryStatement_85 : decode cX6_tryStatement 85 = .ok (.sipush 223, 3) := by decide +kernel
theorem dX6_tryStatement_88 : decode cX6_tryStatement 88 = .ok (.invokevirtual 90, 3) := by decide +kernel
theorem dX6_tryStatement_91 : decode cX6_tryStatement 91 = .ok (.aload_n 0, 1) := by decide +kernel
theorem dX6_tryStatement_92 : decode cX6_tryStatement 92 = .ok (.getfield 145, 3) := by decide +kernel
theorem dX6_tryStatement_95 : decode cX6_tryStatement 95 = .ok (.istore 5, 2) := by decide +kernel
theorem dX6_tryStatement_97 : decode cX6_tryStatement 97 = .ok (.aload_n 0, 1) := by decide +kernel
theorem dX6_tryStatement_98 : decode cX6_tryStatement 98 = .ok (.aload_n 0, 1) := by decide +kernel
theorem dX6_tryStatement_99 : decode cX6_tryStatement 99 = .ok (.aload_n 0, 1) := by decide +kernel
theorem dX6_tryStatement_100 : decode cX6_tryStatement 100 = .ok (.invokevirtual 127, 3) := by decide +kernel
theorem dX6_tryStatement_103 : decode cX6_tryStatement 103 = .ok (.invokevirtual 221, 3) := by decide +kernel
theorem dX6_tryStatement_106 : decode cX6_tryStatement 106 = .ok (.ifCond .lt 7, 3) := by decide +kernel
theorem dX6_tryStatement_109 : decode cX6_tryStatement 109 = .ok (.iconst 1, 1) := by decide +kernel
theorem dX6_tryStatement_110 : decode cX6_tryStatement 110 = .ok (.goto 4, 3) := by decide +kernel
theorem dX6_tryStatement_113 : decode cX6_tryStatement 113 = .ok (.iconst 0, 1) := by decide +kernel
theorem dX6_tryStatement_114 : decode cX6_tryStatement 114 = .ok (.aload_n 0, 1) := by decide +kernel
theorem dX6_tryStatement_115 : decode cX6_tryStatement 115 = .ok (.getfield 145, 3) := by decide +kernel
theorem dX6_tryStatement_118 : decode cX6_tryStatement 118 = .ok (.bipush 10, 2) := by decide +kernel
theorem dX6_tryStatement_120 : decode cX6_tryStatement 120 = .ok (.if_icmp .lt 7, 3) := by decide +kernel
theorem dX6_tryStatement_123 : decode cX6_tryStatement 123 = .ok (.iconst 1, 1) := by decide +kernel
theorem dX6_tryStatement_124 : decode cX6_tryStatement 124 = .ok (.goto 4, 3) := by decide +kernel
theorem dX6_tryStatement_127 : decode cX6_tryStatement 127 = .ok (.iconst 0, 1) := by decide +kernel
theorem dX6_tryStatement_128 : decode cX6_tryStatement 128 = .ok (.invokevirtual 152, 3) := by decide +kernel
theorem dX6_tryStatement_131 : decode cX6_tryStatement 131 = .ok (.lstore 6, 2) := by decide +kernel
theorem dX6_tryStatement_133 : decode cX6_tryStatement 133 = .ok (.aload_n 0, 1) := by decide +kernel
theorem dX6_tryStatement_134 : decode cX6_tryStatement 134 = .ok (.iconst 2, 1) := by decide +kernel
theorem dX6_tryStatement_135 : decode cX6_tryStatement 135 = .ok (.aload_n 0, 1) := by decide +kernel
theorem dX6_tryStatement_136 : decode cX6_tryStatement 136 = .ok (.getfield 145, 3) := by decide +kernel
theorem dX6_tryStatement_139 : decode cX6_tryStatement 139 = .ok (.invokevirtual 256, 3) := by decide +kernel
theorem dX6_tryStatement_142 : decode cX6_tryStatement 142 = .ok (.pop, 1) := by decide +kernel
theorem dX6_tryStatement_143 : decode cX6_tryStatement 143 = .ok (.aload_n 0, 1) := by decide +kernel
theorem dX6_tryStatement_144 : decode cX6_tryStatement 144 = .ok (.lload 6, 2) := by decide +kernel
theorem dX6_tryStatement_146 : decode cX6_tryStatement 146 = .ok (.invokevirtual 224, 3) := by decide +kernel
theorem dX6_tryStatement_149 : decode cX6_tryStatement 149 = .ok (.aload_n 0, 1) := by decide +kernel
theorem dX6_tryStatement_150 : decode cX6_tryStatement 150 = .ok (.iload_n 1, 1) := by decide +kernel
theorem dX6_tryStatement_151 : decode cX6_tryStatement 151 = .ok (.invokevirtual 186, 3) := by decide +kernel
theorem dX6_tryStatement_154 : decode cX6_tryStatement 154 = .ok (.aload_n 0, 1) := by decide +kernel
theorem dX6_tryStatement_155 : decode cX6_tryStatement 155 = .ok (.iload 5, 2) := by decide +kernel
theorem dX6_tryStatement_157 : decode cX6_tryStatement 157 = .ok (.putfield 145, 3) := by decide +kernel
theorem dX6_tryStatement_160 : decode cX6_tryStatement 160 = .ok (.aload_n 0, 1) := by decide +kernel
theorem dX6_tryStatement_161 : decode cX6_tryStatement 161 = .ok (.getfield 22, 3) := by decide +kernel
theorem dX6_tryStatement_164 : decode cX6_tryStatement 164 = .ok (.iload 4, 2) := by decide +kernel
theorem dX6_tryStatement_166 : decode cX6_tryStatement 166 = .ok (.aload_n 0, 1) := by decide +kernel
theorem dX6_tryStatement_167 : decode cX6_tryStatement 167 = .ok (.getfield 62, 3) := by decide +kernel
theorem dX6_tryStatement_170 : decode cX6_tryStatement 170 = .ok (.iastore, 1) := by decide +kernel
theorem dX6_tryStatement_171 : decode cX6_tryStatement 171 = .ok (.return_, 1) := by decide +kernel
theorem dX6_nameStatement_0 : decode cX6_nameStatement 0 = .ok (.aload_n 0, 1) := by decide +kernel
theorem dX6_nameStatement_1 : decode cX6_nameStatement 1 = .ok (.invokevirtual 289, 3) := by decide +kernel
theorem dX6_nameStatement_4 : decode cX6_nameStatement 4 = .ok (.istore_n 2, 1) := by decide +kernel
theorem dX6_nameStatement_5 : decode cX6_nameStatement 5 = .ok (.aload_n 0, 1) := by decide +kernel
theorem dX6_nameStatement_6 : decode cX6_nameStatement 6 = .ok (.getfield 81, 3) := by decide +kernel
theorem dX6_nameStatement_9 : decode cX6_nameStatement 9 = .ok (.bipush 40, 2) := by decide +kernel
theorem dX6_nameStatement_11 : decode cX6_nameStatement 11 = .ok (.if_icmp .ne 24, 3) := by decide +kernel
theorem dX6_nameStatement_14 : decode cX6_nameStatement 14 = .ok (.aload_n 0, 1) := by decide +kernel
theorem dX6_nameStatement_15 : decode cX6_nameStatement 15 = .ok (.iload_n 2, 1) := by decide +kernel
theorem dX6_nameStatement_16 : decode cX6_nameStatement 16 = .ok (.iload_n 1, 1) := by decide +kernel
theorem dX6_nameStatement_17 : decode cX6_nameStatement 17 = .ok (.invokevirtual 292, 3) := by decide +kernel
theorem dX6_nameStatement_20 : decode cX6_nameStatement 20 = .ok (.aload_n 0, 1) := by decide +kernel
theorem dX6_nameStatement_21 : decode cX6_nameStatement 21 = .ok (.bipush 59, 2) := by decide +kernel
theorem dX6_nameStatement_23 : decode cX6_nameStatement 23 = .ok (.invokevirtual 90, 3) := by decide +kernel
theorem dX6_nameStatement_26 : decode cX6_nameStatement 26 = .ok (.aload_n 0, 1) := by decide +kernel
theorem dX6_nameStatement_27 : decode cX6_nameStatement 27 = .ok (.bipush 9, 2) := by decide +kernel
theorem dX6_nameStatement_29 : decode cX6_nameStatement 29 = .ok (.iconst 0, 1) := by decide +kernel
theorem dX6_nameStatement_30 : decode cX6_nameStatement 30 = .ok (.invokevirtual 256, 3) := by decide +kernel
theorem dX6_nameStatement_33 : decode cX6_nameStatement 33 = .ok (.pop, 1) := by decide +kernel
theorem dX6_nameStatement_34 : decode cX6_nameStatement 34 = .ok (.return_, 1) := by decide +kernel
theorem dX6_nameStatement_35 : decode cX6_nameStatement 35 = .ok (.aload_n 0, 1) := by decide +kernel
theorem dX6_nameStatement_36 : decode cX6_nameStatement 36 = .ok (.getfield 81, 3) := by decide +kernel
theorem dX6_nameStatement_39 : decode cX6_nameStatement 39 = .ok (.bipush 91, 2) := by decide +kernel
theorem dX6_nameStatement_41 : decode cX6_nameStatement 41 = .ok (.if_icmp .ne 7, 3) := by decide +kernel
theorem dX6_nameStatement_44 : decode cX6_nameStatement 44 = .ok (.iconst 1, 1) := by decide +kernel
theorem dX6_nameStatement_45 : decode cX6_nameStatement 45 = .ok (.goto 4, 3) := by decide +kernel
theorem dX6_nameStatement_48 : decode cX6_nameStatement 48 = .ok (.iconst 0, 1) := by decide +kernel
theorem dX6_nameStatement_49 : decode cX6_nameStatement 49 = .ok (.istore_n 3, 1) := by decide +kernel
theorem dX6_nameStatement_50 : decode cX6_nameStatement 50 = .ok (.iload_n 3, 1) := by decide +kernel
theorem dX6_nameStatement_51 : decode cX6_nameStatement 51 = .ok (.ifCond .eq 8, 3) := by decide +kernel
theorem dX6_nameStatement_54 : decode cX6_nameStatement 54 = .ok (.aload_n 0, 1) := by decide +kernel
theorem dX6_nameStatement_55 : decode cX6_nameStatement 55 = .ok (.iload_n 1, 1) := by decide +kernel
theorem dX6_nameStatement_56 : decode cX6_nameStatement 56 = .ok (.invokevirtual 295, 3) := by decide +kernel
theorem dX6_nameStatement_59 : decode cX6_nameStatement 59 = .ok (.aload_n 0, 1) := by decide +kernel
theorem dX6_nameStatement_60 : decode cX6_nameStatement 60 = .ok (.bipush 61, 2) := by decide +kernel
theorem dX6_nameStatement_62 : decode cX6_nameStatement 62 = .ok (.invokevirtual 90, 3) := by decide +kernel
theorem dX6_nameStatement_65 : decode cX6_nameStatement 65 = .ok (.aload_n 0, 1) := by decide +kernel
theorem dX6_nameStatement_66 : decode cX6_nameStatement 66 = .ok (.iconst 0, 1) := by decide +kernel
theorem dX6_nameStatement_67 : decode cX6_nameStatement 67 = .ok (.iload_n 1, 1) := by decide +kernel
theorem dX6_nameStatement_68 : decode cX6_nameStatement 68 = .ok (.invokevirtual 286, 3) := by decide +kernel
theorem dX6_nameStatement_71 : decode cX6_nameStatement 71 = .ok (.aload_n 0, 1) := by decide +kernel
theorem dX6_nameStatement_72 : decode cX6_nameStatement 72 = .ok (.bipush 59, 2) := by decide +kernel
theorem dX6_nameStatement_74 : decode cX6_nameStatement 74 = .ok (.invokevirtual 90, 3) := by decide +kernel
theorem dX6_nameStatement_77 : decode cX6_nameStatement 77 = .ok (.iload_n 3, 1) := by decide +kernel
theorem dX6_nameStatement_78 : decode cX6_nameStatement 78 = .ok (.ifCond .eq 14, 3) := by decide +kernel
theorem dX6_nameStatement_81 : decode cX6_nameStatement 81 = .ok (.aload_n 0, 1) := by decide +kernel
theorem dX6_nameStatement_82 : decode cX6_nameStatement 82 = .ok (.iload_n 2, 1) := by decide +kernel
theorem dX6_nameStatement_83 : decode cX6_nameStatement 83 = .ok (.iconst 3, 1) := by decide +kernel
theorem dX6_nameStatement_84 : decode cX6_nameStatement 84 = .ok (.bipush 6, 2) := by decide +kernel
theorem dX6_nameStatement_86 : decode cX6_nameStatement 86 = .ok (.invokevirtual 298, 3) := by decide +kernel
theorem dX6_nameStatement_89 : decode cX6_nameStatement 89 = .ok (.goto 11, 3) := by decide +kernel
theorem dX6_nameStatement_92 : decode cX6_nameStatement 92 = .ok (.aload_n 0, 1) := by decide +kernel
theorem dX6_nameStatement_93 : decode cX6_nameStatement 93 = .ok (.iload_n 2, 1) := by decide +kernel
theorem dX6_nameStatement_94 : decode cX6_nameStatement 94 = .ok (.iconst 2, 1) := by decide +kernel
theorem dX6_nameStatement_95 : decode cX6_nameStatement 95 = .ok (.iconst 2, 1) := by decide +kernel
theorem dX6_nameStatement_96 : decode cX6_nameStatement 96 = .ok (.iconst 4, 1) := by decide +kernel
theorem dX6_nameStatement_97 : decode cX6_nameStatement 97 = .ok (.invokevirtual 302, 3) := by decide +kernel
theorem dX6_nameStatement_100 : decode cX6_nameStatement 100 = .ok (.return_, 1) := by decide +kernel
theorem dX6_readCall_0 : decode cX6_readCall 0 = .ok (.aload_n 0, 1) := by decide +kernel
theorem dX6_readCall_1 : decode cX6_readCall 1 = .ok (.bipush 40, 2) := by decide +kernel
theorem dX6_readCall_3 : decode cX6_readCall 3 = .ok (.iload_n 2, 1) := by decide +kernel
theorem dX6_readCall_4 : decode cX6_readCall 4 = .ok (.invokevirtual 259, 3) := by decide +kernel
theorem dX6_readCall_7 : decode cX6_readCall 7 = .ok (.iconst 0, 1) := by decide +kernel
theorem dX6_readCall_8 : decode cX6_readCall 8 = .ok (.istore_n 3, 1) := by decide +kernel
theorem dX6_readCall_9 : decode cX6_readCall 9 = .ok (.aload_n 0, 1) := by decide +kernel
theorem dX6_readCall_10 : decode cX6_readCall 10 = .ok (.getfield 81, 3) := by decide +kernel
theorem dX6_readCall_13 : decode cX6_readCall 13 = .ok (.bipush 41, 2) := by decide +kernel
theorem dX6_readCall_15 : decode cX6_readCall 15 = .ok (.if_icmp .eq 7, 3) := by decide +kernel
theorem dX6_readCall_18 : decode cX6_readCall 18 = .ok (.iconst 1, 1) := by decide +kernel
theorem dX6_readCall_19 : decode cX6_readCall 19 = .ok (.goto 4, 3) := by decide +kernel
theorem dX6_readCall_22 : decode cX6_readCall 22 = .ok (.iconst 0, 1) := by decide +kernel
theorem dX6_readCall_23 : decode cX6_readCall 23 = .ok (.istore 4, 2) := by decide +kernel
theorem dX6_readCall_25 : decode cX6_readCall 25 = .ok (.iconst 0, 1) := by decide +kernel
theorem dX6_readCall_26 : decode cX6_readCall 26 = .ok (.istore 5, 2) := by decide +kernel
theorem dX6_readCall_28 : decode cX6_readCall 28 = .ok (.iload 5, 2) := by decide +kernel
theorem dX6_readCall_30 : decode cX6_readCall 30 = .ok (.sipush 3000, 3) := by decide +kernel
theorem dX6_readCall_33 : decode cX6_readCall 33 = .ok (.if_icmp .ge 50, 3) := by decide +kernel
theorem dX6_readCall_36 : decode cX6_readCall 36 = .ok (.iload 4, 2) := by decide +kernel
theorem dX6_readCall_38 : decode cX6_readCall 38 = .ok (.ifCond .eq 45, 3) := by decide +kernel
theorem dX6_readCall_41 : decode cX6_readCall 41 = .ok (.aload_n 0, 1) := by decide +kernel
theorem dX6_readCall_42 : decode cX6_readCall 42 = .ok (.iconst 0, 1) := by decide +kernel
theorem dX6_readCall_43 : decode cX6_readCall 43 = .ok (.iload_n 2, 1) := by decide +kernel
theorem dX6_readCall_44 : decode cX6_readCall 44 = .ok (.iconst 1, 1) := by decide +kernel
theorem dX6_readCall_45 : decode cX6_readCall 45 = .ok (.iadd, 1) := by decide +kernel
theorem dX6_readCall_46 : decode cX6_readCall 46 = .ok (.invokevirtual 286, 3) := by decide +kernel
theorem dX6_readCall_49 : decode cX6_readCall 49 = .ok (.iinc 3 1, 3) := by decide +kernel
theorem dX6_readCall_52 : decode cX6_readCall 52 = .ok (.aload_n 0, 1) := by decide +kernel
theorem dX6_readCall_53 : decode cX6_readCall 53 = .ok (.getfield 81, 3) := by decide +kernel
theorem dX6_readCall_56 : decode cX6_readCall 56 = .ok (.bipush 44, 2) := by decide +kernel
theorem dX6_readCall_58 : decode cX6_readCall 58 = .ok (.if_icmp .ne 7, 3) := by decide +kernel
theorem dX6_readCall_61 : decode cX6_readCall 61 = .ok (.iconst 1, 1) := by decide +kernel
theorem dX6_readCall_62 : decode cX6_readCall 62 = .ok (.goto 4, 3) := by decide +kernel
theorem dX6_readCall_65 : decode cX6_readCall 65 = .ok (.iconst 0, 1) := by decide +kernel
theorem dX6_readCall_66 : decode cX6_readCall 66 = .ok (.istore 4, 2) := by decide +kernel
theorem dX6_readCall_68 : decode cX6_readCall 68 = .ok (.iload 4, 2) := by decide +kernel
theorem dX6_readCall_70 : decode cX6_readCall 70 = .ok (.ifCond .eq 7, 3) := by decide +kernel
theorem dX6_readCall_73 : decode cX6_readCall 73 = .ok (.aload_n 0, 1) := by decide +kernel
theorem dX6_readCall_74 : decode cX6_readCall 74 = .ok (.invokevirtual 121, 3) := by decide +kernel
theorem dX6_readCall_77 : decode cX6_readCall 77 = .ok (.iinc 5 1, 3) := by decide +kernel
theorem dX6_readCall_80 : decode cX6_readCall 80 = .ok (.goto (-52), 3) := by decide +kernel
theorem dX6_readCall_83 : decode cX6_readCall 83 = .ok (.aload_n 0, 1) := by decide +kernel
theorem dX6_readCall_84 : decode cX6_readCall 84 = .ok (.bipush 41, 2) := by decide +kernel
theorem dX6_readCall_86 : decode cX6_readCall 86 = .ok (.invokevirtual 90, 3) := by decide +kernel
theorem dX6_readCall_89 : decode cX6_readCall 89 = .ok (.aload_n 0, 1) := by decide +kernel
theorem dX6_readCall_90 : decode cX6_readCall 90 = .ok (.getfield 38, 3) := by decide +kernel
theorem dX6_readCall_93 : decode cX6_readCall 93 = .ok (.iconst 2, 1) := by decide +kernel
theorem dX6_readCall_94 : decode cX6_readCall 94 = .ok (.aaload, 1) := by decide +kernel
theorem dX6_readCall_95 : decode cX6_readCall 95 = .ok (.iload_n 1, 1) := by decide +kernel
theorem dX6_readCall_96 : decode cX6_readCall 96 = .ok (.iload_n 3, 1) := by decide +kernel
theorem dX6_readCall_97 : decode cX6_readCall 97 = .ok (.iastore, 1) := by decide +kernel
theorem dX6_readCall_98 : decode cX6_readCall 98 = .ok (.aload_n 0, 1) := by decide +kernel
theorem dX6_readCall_99 : decode cX6_readCall 99 = .ok (.iload_n 1, 1) := by decide +kernel
theorem dX6_readCall_100 : decode cX6_readCall 100 = .ok (.iconst 4, 1) := by decide +kernel
theorem dX6_readCall_101 : decode cX6_readCall 101 = .ok (.bipush 7, 2) := by decide +kernel
theorem dX6_readCall_103 : decode cX6_readCall 103 = .ok (.invokevirtual 298, 3) := by decide +kernel
theorem dX6_readCall_106 : decode cX6_readCall 106 = .ok (.return_, 1) := by decide +kernel
theorem dX6_readIndex_0 : decode cX6_readIndex 0 = .ok (.aload_n 0, 1) := by decide +kernel
theorem dX6_readIndex_1 : decode cX6_readIndex 1 = .ok (.bipush 91, 2) := by decide +kernel
theorem dX6_readIndex_3 : decode cX6_readIndex 3 = .ok (.iload_n 1, 1) := by decide +kernel
theorem dX6_readIndex_4 : decode cX6_readIndex 4 = .ok (.invokevirtual 259, 3) := by decide +kernel
theorem dX6_readIndex_7 : decode cX6_readIndex 7 = .ok (.aload_n 0, 1) := by decide +kernel
theorem dX6_readIndex_8 : decode cX6_readIndex 8 = .ok (.iconst 0, 1) := by decide +kernel
theorem dX6_readIndex_9 : decode cX6_readIndex 9 = .ok (.iload_n 1, 1) := by decide +kernel
theorem dX6_readIndex_10 : decode cX6_readIndex 10 = .ok (.iconst 1, 1) := by decide +kernel
theorem dX6_readIndex_11 : decode cX6_readIndex 11 = .ok (.iadd, 1) := by decide +kernel
theorem dX6_readIndex_12 : decode cX6_readIndex 12 = .ok (.invokevirtual 286, 3) := by decide +kernel
theorem dX6_readIndex_15 : decode cX6_readIndex 15 = .ok (.aload_n 0, 1) := by decide +kernel
theorem dX6_readIndex_16 : decode cX6_readIndex 16 = .ok (.bipush 93, 2) := by decide +kernel
theorem dX6_readIndex_18 : decode cX6_readIndex 18 = .ok (.invokevirtual 90, 3) := by decide +kernel
theorem dX6_readIndex_21 : decode cX6_readIndex 21 = .ok (.return_, 1) := by decide +kernel
theorem dX6_expression_0 : decode cX6_expression 0 = .ok (.iload_n 1, 1) := by decide +kernel
theorem dX6_expression_1 : decode cX6_expression 1 = .ok (.iconst 5, 1) := by decide +kernel
theorem dX6_expression_2 : decode cX6_expression 2 = .ok (.if_icmp .le 9, 3) := by decide +kernel
theorem dX6_expression_5 : decode cX6_expression 5 = .ok (.aload_n 0, 1) := by decide +kernel
theorem dX6_expression_6 : decode cX6_expression 6 = .ok (.iload_n 2, 1) := by decide +kernel
theorem dX6_expression_7 : decode cX6_expression 7 = .ok (.invokevirtual 306, 3) := by decide +kernel
theorem dX6_expression_10 : decode cX6_expression 10 = .ok (.return_, 1) := by decide +kernel
theorem dX6_expression_11 : decode cX6_expression 11 = .ok (.iload_n 1, 1) := by decide +kernel
theorem dX6_expression_12 : decode cX6_expression 12 = .ok (.iconst 2, 1) := by decide +kernel
theorem dX6_expression_13 : decode cX6_expression 13 = .ok (.if_icmp .ne 38, 3) := by decide +kernel
theorem dX6_expression_16 : decode cX6_expression 16 = .ok (.aload_n 0, 1) := by decide +kernel
theorem dX6_expression_17 : decode cX6_expression 17 = .ok (.getfield 81, 3) := by decide +kernel
theorem dX6_expression_20 : decode cX6_expression 20 = .ok (.sipush 227, 3) := by decide +kernel
theorem dX6_expression_23 : decode cX6_expression 23 = .ok (.if_icmp .ne 28, 3) := by decide +kernel
theorem dX6_expression_26 : decode cX6_expression 26 = .ok (.aload_n 0, 1) := by decide +kernel
theorem dX6_expression_27 : decode cX6_expression 27 = .ok (.sipush 227, 3) := by decide +kernel
theorem dX6_expression_30 : decode cX6_expression 30 = .ok (.iload_n 2, 1) := by decide +kernel
theorem dX6_expression_31 : decode cX6_expression 31 = .ok (.invokevirtual 259, 3) := by decide +kernel
theorem dX6_expression_34 : decode cX6_expression 34 = .ok (.aload_n 0, 1) := by decide +kernel
theorem dX6_expression_35 : decode cX6_expression 35 = .ok (.iconst 2, 1) := by decide +kernel
theorem dX6_expression_36 : decode cX6_expression 36 = .ok (.iload_n 2, 1) := by decide +kernel
theorem dX6_expression_37 : decode cX6_expression 37 = .ok (.iconst 1, 1) := by decide +kernel
theorem dX6_expression_38 : decode cX6_expression 38 = .ok (.iadd, 1) := by decide +kernel
theorem dX6_expression_39 : decode cX6_expression 39 = .ok (.invokevirtual 286, 3) := by decide +kernel
theorem dX6_expression_42 : decode cX6_expression 42 = .ok (.aload_n 0, 1) := by decide +kernel
theorem dX6_expression_43 : decode cX6_expression 43 = .ok (.bipush 21, 2) := by decide +kernel
theorem dX6_expression_45 : decode cX6_expression 45 = .ok (.iconst 0, 1) := by decide +kernel
theorem dX6_expression_46 : decode cX6_expression 46 = .ok (.invokevirtual 256, 3) := by decide +kernel
theorem dX6_expression_49 : decode cX6_expression 49 = .ok (.pop, 1) := by decide +kernel
theorem dX6_expression_50 : decode cX6_expression 50 = .ok (.return_, 1) := by decide +kernel
theorem dX6_expression_51 : decode cX6_expression 51 = .ok (.aload_n 0, 1) := by decide +kernel
theorem dX6_expression_52 : decode cX6_expression 52 = .ok (.iload_n 1, 1) := by decide +kernel
theorem dX6_expression_53 : decode cX6_expression 53 = .ok (.iconst 1, 1) := by decide +kernel
theorem dX6_expression_54 : decode cX6_expression 54 = .ok (.iadd, 1) := by decide +kernel
theorem dX6_expression_55 : decode cX6_expression 55 = .ok (.iload_n 2, 1) := by decide +kernel
theorem dX6_expression_56 : decode cX6_expression 56 = .ok (.invokevirtual 286, 3) := by decide +kernel
theorem dX6_expression_59 : decode cX6_expression 59 = .ok (.iconst 0, 1) := by decide +kernel
theorem dX6_expression_60 : decode cX6_expression 60 = .ok (.istore_n 3, 1) := by decide +kernel
theorem dX6_expression_61 : decode cX6_expression 61 = .ok (.iload_n 3, 1) := by decide +kernel
theorem dX6_expression_62 : decode cX6_expression 62 = .ok (.sipush 3000, 3) := by decide +kernel
theorem dX6_expression_65 : decode cX6_expression 65 = .ok (.if_icmp .ge 55, 3) := by decide +kernel
theorem dX6_expression_68 : decode cX6_expression 68 = .ok (.aload_n 0, 1) := by decide +kernel
theorem dX6_expression_69 : decode cX6_expression 69 = .ok (.getfield 81, 3) := by decide +kernel
theorem dX6_expression_72 : decode cX6_expression 72 = .ok (.invokestatic 309, 3) := by decide +kernel
theorem dX6_expression_75 : decode cX6_expression 75 = .ok (.iload_n 1, 1) := by decide +kernel
theorem dX6_expression_76 : decode cX6_expression 76 = .ok (.if_icmp .ne 44, 3) := by decide +kernel
theorem dX6_expression_79 : decode cX6_expression 79 = .ok (.aload_n 0, 1) := by decide +kernel
theorem dX6_expression_80 : decode cX6_expression 80 = .ok (.getfield 81, 3) := by decide +kernel
theorem dX6_expression_83 : decode cX6_expression 83 = .ok (.invokestatic 313, 3) := by decide +kernel
theorem dX6_expression_86 : decode cX6_expression 86 = .ok (.istore 4, 2) := by decide +kernel
theorem dX6_expression_88 : decode cX6_expression 88 = .ok (.aload_n 0, 1) := by decide +kernel
theorem dX6_expression_89 : decode cX6_expression 89 = .ok (.invokevirtual 121, 3) := by decide +kernel
theorem dX6_expression_92 : decode cX6_expression 92 = .ok (.aload_n 0, 1) := by decide +kernel
theorem dX6_expression_93 : decode cX6_expression 93 = .ok (.iload_n 1, 1) := by decide +kernel
theorem dX6_expression_94 : decode cX6_expression 94 = .ok (.iconst 1, 1) := by decide +kernel
theorem dX6_expression_95 : decode cX6_expression 95 = .ok (.iadd, 1) := by decide +kernel
theorem dX6_expression_96 : decode cX6_expression 96 = .ok (.iload_n 2, 1) := by decide +kernel
theorem dX6_expression_97 : decode cX6_expression 97 = .ok (.invokevirtual 286, 3) := by decide +kernel
theorem dX6_expression_100 : decode cX6_expression 100 = .ok (.aload_n 0, 1) := by decide +kernel
theorem dX6_expression_101 : decode cX6_expression 101 = .ok (.iload 4, 2) := by decide +kernel
theorem dX6_expression_103 : decode cX6_expression 103 = .ok (.iconst 0, 1) := by decide +kernel
theorem dX6_expression_104 : decode cX6_expression 104 = .ok (.invokevirtual 256, 3) := by decide +kernel
theorem dX6_expression_107 : decode cX6_expression 107 = .ok (.pop, 1) := by decide +kernel
theorem dX6_expression_108 : decode cX6_expression 108 = .ok (.iload_n 1, 1) := by decide +kernel
theorem dX6_expression_109 : decode cX6_expression 109 = .ok (.iconst 3, 1) := by decide +kernel
theorem dX6_expression_110 : decode cX6_expression 110 = .ok (.if_icmp .ne 4, 3) := by decide +kernel
theorem dX6_expression_113 : decode cX6_expression 113 = .ok (.return_, 1) := by decide +kernel
theorem dX6_expression_114 : decode cX6_expression 114 = .ok (.iinc 3 1, 3) := by decide +kernel
theorem dX6_expression_117 : decode cX6_expression 117 = .ok (.goto (-56), 3) := by decide +kernel
theorem dX6_expression_120 : decode cX6_expression 120 = .ok (.return_, 1) := by decide +kernel
theorem dX6_factor_0 : decode cX6_factor 0 = .ok (.aload_n 0, 1) := by decide +kernel
theorem dX6_factor_1 : decode cX6_factor 1 = .ok (.getfield 81, 3) := by decide +kernel
theorem dX6_factor_4 : decode cX6_factor 4 = .ok (.lookupswitch 153 #[(3, 145), (4, 52), (40, 121), (45, 70), (224, 95)], 52) := by decide +kernel
theorem dX6_factor_56 : decode cX6_factor 56 = .ok (.aload_n 0, 1) := by decide +kernel
theorem dX6_factor_57 : decode cX6_factor 57 = .ok (.iconst 0, 1) := by decide +kernel
theorem dX6_factor_58 : decode cX6_factor 58 = .ok (.aload_n 0, 1) := by decide +kernel
theorem dX6_factor_59 : decode cX6_factor 59 = .ok (.invokevirtual 127, 3) := by decide +kernel
theorem dX6_factor_62 : decode cX6_factor 62 = .ok (.l2i, 1) := by decide +kernel
theorem dX6_factor_63 : decode cX6_factor 63 = .ok (.invokevirtual 256, 3) := by decide +kernel
theorem dX6_factor_66 : decode cX6_factor 66 = .ok (.pop, 1) := by decide +kernel
theorem dX6_factor_67 : decode cX6_factor 67 = .ok (.aload_n 0, 1) := by decide +kernel
theorem dX6_factor_68 : decode cX6_factor 68 = .ok (.invokevirtual 121, 3) := by decide +kernel
theorem dX6_factor_71 : decode cX6_factor 71 = .ok (.goto 91, 3) := by decide +kernel
theorem dX6_factor_74 : decode cX6_factor 74 = .ok (.aload_n 0, 1) := by decide +kernel
theorem dX6_factor_75 : decode cX6_factor 75 = .ok (.bipush 45, 2) := by decide +kernel
theorem dX6_factor_77 : decode cX6_factor 77 = .ok (.iload_n 1, 1) := by decide +kernel
theorem dX6_factor_78 : decode cX6_factor 78 = .ok (.invokevirtual 259, 3) := by decide +kernel
theorem dX6_factor_81 : decode cX6_factor 81 = .ok (.aload_n 0, 1) := by decide +kernel
theorem dX6_factor_82 : decode cX6_factor 82 = .ok (.iload_n 1, 1) := by decide +kernel
theorem dX6_factor_83 : decode cX6_factor 83 = .ok (.iconst 1, 1) := by decide +kernel
theorem dX6_factor_84 : decode cX6_factor 84 = .ok (.iadd, 1) := by decide +kernel
theorem dX6_factor_85 : decode cX6_factor 85 = .ok (.invokevirtual 306, 3) := by decide +kernel
theorem dX6_factor_88 : decode cX6_factor 88 = .ok (.aload_n 0, 1) := by decide +kernel
theorem dX6_factor_89 : decode cX6_factor 89 = .ok (.bipush 22, 2) := by decide +kernel
theorem dX6_factor_91 : decode cX6_factor 91 = .ok (.iconst 0, 1) := by decide +kernel
theorem dX6_factor_92 : decode cX6_factor 92 = .ok (.invokevirtual 256, 3) := by decide +kernel
theorem dX6_factor_95 : decode cX6_factor 95 = .ok (.pop, 1) := by decide +kernel
theorem dX6_factor_96 : decode cX6_factor 96 = .ok (.goto 66, 3) := by decide +kernel
theorem dX6_factor_99 : decode cX6_factor 99 = .ok (.aload_n 0, 1) := by decide +kernel
theorem dX6_factor_100 : decode cX6_factor 100 = .ok (.sipush 224, 3) := by decide +kernel
theorem dX6_factor_103 : decode cX6_factor 103 = .ok (.iload_n 1, 1) := by decide +kernel
theorem dX6_factor_104 : decode cX6_factor 104 = .ok (.invokevirtual 259, 3) := by decide +kernel
theorem dX6_factor_107 : decode cX6_factor 107 = .ok (.aload_n 0, 1) := by decide +kernel
theorem dX6_factor_108 : decode cX6_factor 108 = .ok (.iload_n 1, 1) := by decide +kernel
theorem dX6_factor_109 : decode cX6_factor 109 = .ok (.iconst 1, 1) := by decide +kernel
theorem dX6_factor_110 : decode cX6_factor 110 = .ok (.iadd, 1) := by decide +kernel
theorem dX6_factor_111 : decode cX6_factor 111 = .ok (.invokevirtual 306, 3) := by decide +kernel
theorem dX6_factor_114 : decode cX6_factor 114 = .ok (.aload_n 0, 1) := by decide +kernel
theorem dX6_factor_115 : decode cX6_factor 115 = .ok (.bipush 23, 2) := by decide +kernel
theorem dX6_factor_117 : decode cX6_factor 117 = .ok (.iconst 0, 1) := by decide +kernel
theorem dX6_factor_118 : decode cX6_factor 118 = .ok (.invokevirtual 256, 3) := by decide +kernel
theorem dX6_factor_121 : decode cX6_factor 121 = .ok (.pop, 1) := by decide +kernel
theorem dX6_factor_122 : decode cX6_factor 122 = .ok (.goto 40, 3) := by decide +kernel
theorem dX6_factor_125 : decode cX6_factor 125 = .ok (.aload_n 0, 1) := by decide +kernel
theorem dX6_factor_126 : decode cX6_factor 126 = .ok (.bipush 40, 2) := by decide +kernel
theorem dX6_factor_128 : decode cX6_factor 128 = .ok (.iload_n 1, 1) := by decide +kernel
theorem dX6_factor_129 : decode cX6_factor 129 = .ok (.invokevirtual 259, 3) := by decide +kernel
theorem dX6_factor_132 : decode cX6_factor 132 = .ok (.aload_n 0, 1) := by decide +kernel
theorem dX6_factor_133 : decode cX6_factor 133 = .ok (.iconst 0, 1) := by decide +kernel
theorem dX6_factor_134 : decode cX6_factor 134 = .ok (.iload_n 1, 1) := by decide +kernel
theorem dX6_factor_135 : decode cX6_factor 135 = .ok (.iconst 1, 1) := by decide +kernel
theorem dX6_factor_136 : decode cX6_factor 136 = .ok (.iadd, 1) := by decide +kernel
theorem dX6_factor_137 : decode cX6_factor 137 = .ok (.invokevirtual 286, 3) := by decide +kernel
theorem dX6_factor_140 : decode cX6_factor 140 = .ok (.aload_n 0, 1) := by decide +kernel
theorem dX6_factor_141 : decode cX6_factor 141 = .ok (.bipush 41, 2) := by decide +kernel
theorem dX6_factor_143 : decode cX6_factor 143 = .ok (.invokevirtual 90, 3) := by decide +kernel
theorem dX6_factor_146 : decode cX6_factor 146 = .ok (.goto 16, 3) := by decide +kernel
theorem dX6_factor_149 : decode cX6_factor 149 = .ok (.aload_n 0, 1) := by decide +kernel
theorem dX6_factor_150 : decode cX6_factor 150 = .ok (.iload_n 1, 1) := by decide +kernel
theorem dX6_factor_151 : decode cX6_factor 151 = .ok (.invokevirtual 316, 3) := by decide +kernel
theorem dX6_factor_154 : decode cX6_factor 154 = .ok (.goto 8, 3) := by decide +kernel
theorem dX6_factor_157 : decode cX6_factor 157 = .ok (.aload_n 0, 1) := by decide +kernel
theorem dX6_factor_158 : decode cX6_factor 158 = .ok (.iconst 2, 1) := by decide +kernel
theorem dX6_factor_159 : decode cX6_factor 159 = .ok (.invokevirtual 109, 3) := by decide +kernel
theorem dX6_factor_162 : decode cX6_factor 162 = .ok (.return_, 1) := by decide +kernel
theorem dX6_nameFactor_0 : decode cX6_nameFactor 0 = .ok (.aload_n 0, 1) := by decide +kernel
theorem dX6_nameFactor_1 : decode cX6_nameFactor 1 = .ok (.invokevirtual 289, 3) := by decide +kernel
theorem dX6_nameFactor_4 : decode cX6_nameFactor 4 = .ok (.istore_n 2, 1) := by decide +kernel
theorem dX6_nameFactor_5 : decode cX6_nameFactor 5 = .ok (.aload_n 0, 1) := by decide +kernel
theorem dX6_nameFactor_6 : decode cX6_nameFactor 6 = .ok (.getfield 81, 3) := by decide +kernel
theorem dX6_nameFactor_9 : decode cX6_nameFactor 9 = .ok (.bipush 40, 2) := by decide +kernel
theorem dX6_nameFactor_11 : decode cX6_nameFactor 11 = .ok (.if_icmp .ne 12, 3) := by decide +kernel
theorem dX6_nameFactor_14 : decode cX6_nameFactor 14 = .ok (.aload_n 0, 1) := by decide +kernel
theorem dX6_nameFactor_15 : decode cX6_nameFactor 15 = .ok (.iload_n 2, 1) := by decide +kernel
theorem dX6_nameFactor_16 : decode cX6_nameFactor 16 = .ok (.iload_n 1, 1) := by decide +kernel
theorem dX6_nameFactor_17 : decode cX6_nameFactor 17 = .ok (.invokevirtual 292, 3) := by decide +kernel
theorem dX6_nameFactor_20 : decode cX6_nameFactor 20 = .ok (.goto 35, 3) := by decide +kernel
theorem dX6_nameFactor_23 : decode cX6_nameFactor 23 = .ok (.aload_n 0, 1) := by decide +kernel
theorem dX6_nameFactor_24 : decode cX6_nameFactor 24 = .ok (.getfield 81, 3) := by decide +kernel
theorem dX6_nameFactor_27 : decode cX6_nameFactor 27 = .ok (.bipush 91, 2) := by decide +kernel
theorem dX6_nameFactor_29 : decode cX6_nameFactor 29 = .ok (.if_icmp .ne 18, 3) := by decide +kernel
theorem dX6_nameFactor_32 : decode cX6_nameFactor 32 = .ok (.aload_n 0, 1) := by decide +kernel
theorem dX6_nameFactor_33 : decode cX6_nameFactor 33 = .ok (.iload_n 1, 1) := by decide +kernel
theorem dX6_nameFactor_34 : decode cX6_nameFactor 34 = .ok (.invokevirtual 295, 3) := by decide +kernel
theorem dX6_nameFactor_37 : decode cX6_nameFactor 37 = .ok (.aload_n 0, 1) := by decide +kernel
theorem dX6_nameFactor_38 : decode cX6_nameFactor 38 = .ok (.iload_n 2, 1) := by decide +kernel
theorem dX6_nameFactor_39 : decode cX6_nameFactor 39 = .ok (.iconst 3, 1) := by decide +kernel
theorem dX6_nameFactor_40 : decode cX6_nameFactor 40 = .ok (.iconst 5, 1) := by decide +kernel
theorem dX6_nameFactor_41 : decode cX6_nameFactor 41 = .ok (.invokevirtual 298, 3) := by decide +kernel
theorem dX6_nameFactor_44 : decode cX6_nameFactor 44 = .ok (.goto 11, 3) := by decide +kernel
theorem dX6_nameFactor_47 : decode cX6_nameFactor 47 = .ok (.aload_n 0, 1) := by decide +kernel
theorem dX6_nameFactor_48 : decode cX6_nameFactor 48 = .ok (.iload_n 2, 1) := by decide +kernel
theorem dX6_nameFactor_49 : decode cX6_nameFactor 49 = .ok (.iconst 1, 1) := by decide +kernel
theorem dX6_nameFactor_50 : decode cX6_nameFactor 50 = .ok (.iconst 1, 1) := by decide +kernel
theorem dX6_nameFactor_51 : decode cX6_nameFactor 51 = .ok (.iconst 3, 1) := by decide +kernel
theorem dX6_nameFactor_52 : decode cX6_nameFactor 52 = .ok (.invokevirtual 302, 3) := by decide +kernel
theorem dX6_nameFactor_55 : decode cX6_nameFactor 55 = .ok (.return_, 1) := by decide +kernel
theorem dX6_levelOf_0 : decode cX6_levelOf 0 = .ok (.iload_n 0, 1) := by decide +kernel
theorem dX6_levelOf_1 : decode cX6_levelOf 1 = .ok (.lookupswitch 109 #[(37, 107), (42, 107), (43, 105), (45, 105), (47, 107), (60, 103), (128, 103), (129, 103), (130, 103), (225, 101), (226, 99)], 99) := by decide +kernel
theorem dX6_levelOf_100 : decode cX6_levelOf 100 = .ok (.iconst 0, 1) := by decide +kernel
theorem dX6_levelOf_101 : decode cX6_levelOf 101 = .ok (.ireturn, 1) := by decide +kernel
theorem dX6_levelOf_102 : decode cX6_levelOf 102 = .ok (.iconst 1, 1) := by decide +kernel
theorem dX6_levelOf_103 : decode cX6_levelOf 103 = .ok (.ireturn, 1) := by decide +kernel
theorem dX6_levelOf_104 : decode cX6_levelOf 104 = .ok (.iconst 3, 1) := by decide +kernel
theorem dX6_levelOf_105 : decode cX6_levelOf 105 = .ok (.ireturn, 1) := by decide +kernel
theorem dX6_levelOf_106 : decode cX6_levelOf 106 = .ok (.iconst 4, 1) := by decide +kernel
theorem dX6_levelOf_107 : decode cX6_levelOf 107 = .ok (.ireturn, 1) := by decide +kernel
theorem dX6_levelOf_108 : decode cX6_levelOf 108 = .ok (.iconst 5, 1) := by decide +kernel
theorem dX6_levelOf_109 : decode cX6_levelOf 109 = .ok (.ireturn, 1) := by decide +kernel
theorem dX6_levelOf_110 : decode cX6_levelOf 110 = .ok (.bipush (-2), 2) := by decide +kernel
theorem dX6_levelOf_112 : decode cX6_levelOf 112 = .ok (.ireturn, 1) := by decide +kernel
theorem dX6_operationOf_0 : decode cX6_operationOf 0 = .ok (.iload_n 0, 1) := by decide +kernel
