theorem dX12_used_5 : decode cX12_used 5 = .ok (.iload_n 2, 1) := by decide +kernel
theorem dX12_used_6 : decode cX12_used 6 = .ok (.iastore, 1) := by decide +kernel
theorem dX12_used_7 : decode cX12_used 7 = .ok (.aload_n 0, 1) := by decide +kernel
theorem dX12_used_8 : decode cX12_used 8 = .ok (.getfield 191, 3) := by decide +kernel
theorem dX12_used_11 : decode cX12_used 11 = .ok (.iload_n 1, 1) := by decide +kernel
theorem dX12_used_12 : decode cX12_used 12 = .ok (.aload_n 0, 1) := by decide +kernel
theorem dX12_used_13 : decode cX12_used 13 = .ok (.iload_n 3, 1) := by decide +kernel
theorem dX12_used_14 : decode cX12_used 14 = .ok (.iload_n 1, 1) := by decide +kernel
theorem dX12_used_15 : decode cX12_used 15 = .ok (.invokevirtual 465, 3) := by decide +kernel
theorem dX12_used_18 : decode cX12_used 18 = .ok (.iastore, 1) := by decide +kernel
theorem dX12_used_19 : decode cX12_used 19 = .ok (.return_, 1) := by decide +kernel
theorem dX12_index_0 : decode cX12_index 0 = .ok (.aload_n 0, 1) := by decide +kernel
theorem dX12_index_1 : decode cX12_index 1 = .ok (.invokevirtual 469, 3) := by decide +kernel
theorem dX12_index_4 : decode cX12_index 4 = .ok (.ifCond .eq 53, 3) := by decide +kernel
theorem dX12_index_7 : decode cX12_index 7 = .ok (.aload_n 0, 1) := by decide +kernel
theorem dX12_index_8 : decode cX12_index 8 = .ok (.invokevirtual 436, 3) := by decide +kernel
theorem dX12_index_11 : decode cX12_index 11 = .ok (.aload_n 0, 1) := by decide +kernel
theorem dX12_index_12 : decode cX12_index 12 = .ok (.invokevirtual 473, 3) := by decide +kernel
theorem dX12_index_15 : decode cX12_index 15 = .ok (.aload_n 0, 1) := by decide +kernel
theorem dX12_index_16 : decode cX12_index 16 = .ok (.getfield 395, 3) := by decide +kernel
theorem dX12_index_19 : decode cX12_index 19 = .ok (.ifCond .ne 38, 3) := by decide +kernel
theorem dX12_index_22 : decode cX12_index 22 = .ok (.aload_n 0, 1) := by decide +kernel
theorem dX12_index_23 : decode cX12_index 23 = .ok (.aload_n 0, 1) := by decide +kernel
theorem dX12_index_24 : decode cX12_index 24 = .ok (.getfield 408, 3) := by decide +kernel
theorem dX12_index_27 : decode cX12_index 27 = .ok (.bipush 93, 2) := by decide +kernel
theorem dX12_index_29 : decode cX12_index 29 = .ok (.if_icmp .ne 7, 3) := by decide +kernel
theorem dX12_index_32 : decode cX12_index 32 = .ok (.iconst 1, 1) := by decide +kernel
theorem dX12_index_33 : decode cX12_index 33 = .ok (.goto 4, 3) := by decide +kernel
theorem dX12_index_36 : decode cX12_index 36 = .ok (.iconst 0, 1) := by decide +kernel
theorem dX12_index_37 : decode cX12_index 37 = .ok (.invokevirtual 432, 3) := by decide +kernel
theorem dX12_index_40 : decode cX12_index 40 = .ok (.ifCond .eq 17, 3) := by decide +kernel
theorem dX12_index_43 : decode cX12_index 43 = .ok (.aload_n 0, 1) := by decide +kernel
theorem dX12_index_44 : decode cX12_index 44 = .ok (.dup, 1) := by decide +kernel
theorem dX12_index_45 : decode cX12_index 45 = .ok (.getfield 459, 3) := by decide +kernel
theorem dX12_index_48 : decode cX12_index 48 = .ok (.iconst 1, 1) := by decide +kernel
theorem dX12_index_49 : decode cX12_index 49 = .ok (.isub, 1) := by decide +kernel
theorem dX12_index_50 : decode cX12_index 50 = .ok (.putfield 459, 3) := by decide +kernel
theorem dX12_index_53 : decode cX12_index 53 = .ok (.aload_n 0, 1) := by decide +kernel
theorem dX12_index_54 : decode cX12_index 54 = .ok (.invokevirtual 436, 3) := by decide +kernel
theorem dX12_index_57 : decode cX12_index 57 = .ok (.return_, 1) := by decide +kernel
theorem dX12_call_0 : decode cX12_call 0 = .ok (.iconst 0, 1) := by decide +kernel
theorem dX12_call_1 : decode cX12_call 1 = .ok (.istore_n 2, 1) := by decide +kernel
theorem dX12_call_2 : decode cX12_call 2 = .ok (.aload_n 0, 1) := by decide +kernel
theorem dX12_call_3 : decode cX12_call 3 = .ok (.invokevirtual 469, 3) := by decide +kernel
theorem dX12_call_6 : decode cX12_call 6 = .ok (.ifCond .eq 115, 3) := by decide +kernel
theorem dX12_call_9 : decode cX12_call 9 = .ok (.aload_n 0, 1) := by decide +kernel
theorem dX12_call_10 : decode cX12_call 10 = .ok (.invokevirtual 436, 3) := by decide +kernel
theorem dX12_call_13 : decode cX12_call 13 = .ok (.aload_n 0, 1) := by decide +kernel
theorem dX12_call_14 : decode cX12_call 14 = .ok (.getfield 395, 3) := by decide +kernel
theorem dX12_call_17 : decode cX12_call 17 = .ok (.ifCond .ne 16, 3) := by decide +kernel
theorem dX12_call_20 : decode cX12_call 20 = .ok (.aload_n 0, 1) := by decide +kernel
theorem dX12_call_21 : decode cX12_call 21 = .ok (.getfield 408, 3) := by decide +kernel
theorem dX12_call_24 : decode cX12_call 24 = .ok (.bipush 41, 2) := by decide +kernel
theorem dX12_call_26 : decode cX12_call 26 = .ok (.if_icmp .eq 7, 3) := by decide +kernel
theorem dX12_call_29 : decode cX12_call 29 = .ok (.iconst 1, 1) := by decide +kernel
theorem dX12_call_30 : decode cX12_call 30 = .ok (.goto 4, 3) := by decide +kernel
theorem dX12_call_33 : decode cX12_call 33 = .ok (.iconst 0, 1) := by decide +kernel
theorem dX12_call_34 : decode cX12_call 34 = .ok (.istore_n 3, 1) := by decide +kernel
theorem dX12_call_35 : decode cX12_call 35 = .ok (.iload_n 3, 1) := by decide +kernel
theorem dX12_call_36 : decode cX12_call 36 = .ok (.ifCond .eq 43, 3) := by decide +kernel
theorem dX12_call_39 : decode cX12_call 39 = .ok (.aload_n 0, 1) := by decide +kernel
theorem dX12_call_40 : decode cX12_call 40 = .ok (.invokevirtual 473, 3) := by decide +kernel
theorem dX12_call_43 : decode cX12_call 43 = .ok (.iinc 2 1, 3) := by decide +kernel
theorem dX12_call_46 : decode cX12_call 46 = .ok (.aload_n 0, 1) := by decide +kernel
theorem dX12_call_47 : decode cX12_call 47 = .ok (.getfield 395, 3) := by decide +kernel
theorem dX12_call_50 : decode cX12_call 50 = .ok (.ifCond .ne 16, 3) := by decide +kernel
theorem dX12_call_53 : decode cX12_call 53 = .ok (.aload_n 0, 1) := by decide +kernel
theorem dX12_call_54 : decode cX12_call 54 = .ok (.getfield 408, 3) := by decide +kernel
theorem dX12_call_57 : decode cX12_call 57 = .ok (.bipush 44, 2) := by decide +kernel
theorem dX12_call_59 : decode cX12_call 59 = .ok (.if_icmp .ne 7, 3) := by decide +kernel
theorem dX12_call_62 : decode cX12_call 62 = .ok (.iconst 1, 1) := by decide +kernel
theorem dX12_call_63 : decode cX12_call 63 = .ok (.goto 4, 3) := by decide +kernel
theorem dX12_call_66 : decode cX12_call 66 = .ok (.iconst 0, 1) := by decide +kernel
theorem dX12_call_67 : decode cX12_call 67 = .ok (.istore_n 3, 1) := by decide +kernel
theorem dX12_call_68 : decode cX12_call 68 = .ok (.iload_n 3, 1) := by decide +kernel
theorem dX12_call_69 : decode cX12_call 69 = .ok (.ifCond .eq (-34), 3) := by decide +kernel
theorem dX12_call_72 : decode cX12_call 72 = .ok (.aload_n 0, 1) := by decide +kernel
theorem dX12_call_73 : decode cX12_call 73 = .ok (.invokevirtual 436, 3) := by decide +kernel
theorem dX12_call_76 : decode cX12_call 76 = .ok (.goto (-41), 3) := by decide +kernel
theorem dX12_call_79 : decode cX12_call 79 = .ok (.aload_n 0, 1) := by decide +kernel
theorem dX12_call_80 : decode cX12_call 80 = .ok (.getfield 395, 3) := by decide +kernel
theorem dX12_call_83 : decode cX12_call 83 = .ok (.ifCond .ne 38, 3) := by decide +kernel
theorem dX12_call_86 : decode cX12_call 86 = .ok (.aload_n 0, 1) := by decide +kernel
theorem dX12_call_87 : decode cX12_call 87 = .ok (.aload_n 0, 1) := by decide +kernel
theorem dX12_call_88 : decode cX12_call 88 = .ok (.getfield 408, 3) := by decide +kernel
theorem dX12_call_91 : decode cX12_call 91 = .ok (.bipush 41, 2) := by decide +kernel
theorem dX12_call_93 : decode cX12_call 93 = .ok (.if_icmp .ne 7, 3) := by decide +kernel
theorem dX12_call_96 : decode cX12_call 96 = .ok (.iconst 1, 1) := by decide +kernel
theorem dX12_call_97 : decode cX12_call 97 = .ok (.goto 4, 3) := by decide +kernel
theorem dX12_call_100 : decode cX12_call 100 = .ok (.iconst 0, 1) := by decide +kernel
theorem dX12_call_101 : decode cX12_call 101 = .ok (.invokevirtual 432, 3) := by decide +kernel
theorem dX12_call_104 : decode cX12_call 104 = .ok (.ifCond .eq 17, 3) := by decide +kernel
theorem dX12_call_107 : decode cX12_call 107 = .ok (.aload_n 0, 1) := by decide +kernel
theorem dX12_call_108 : decode cX12_call 108 = .ok (.dup, 1) := by decide +kernel
theorem dX12_call_109 : decode cX12_call 109 = .ok (.getfield 459, 3) := by decide +kernel
theorem dX12_call_112 : decode cX12_call 112 = .ok (.iconst 1, 1) := by decide +kernel
theorem dX12_call_113 : decode cX12_call 113 = .ok (.isub, 1) := by decide +kernel
theorem dX12_call_114 : decode cX12_call 114 = .ok (.putfield 459, 3) := by decide +kernel
theorem dX12_call_117 : decode cX12_call 117 = .ok (.aload_n 0, 1) := by decide +kernel
theorem dX12_call_118 : decode cX12_call 118 = .ok (.invokevirtual 436, 3) := by decide +kernel
theorem dX12_call_121 : decode cX12_call 121 = .ok (.aload_n 0, 1) := by decide +kernel
theorem dX12_call_122 : decode cX12_call 122 = .ok (.getfield 209, 3) := by decide +kernel
theorem dX12_call_125 : decode cX12_call 125 = .ok (.iload_n 1, 1) := by decide +kernel
theorem dX12_call_126 : decode cX12_call 126 = .ok (.iload_n 2, 1) := by decide +kernel
theorem dX12_call_127 : decode cX12_call 127 = .ok (.iastore, 1) := by decide +kernel
theorem dX12_call_128 : decode cX12_call 128 = .ok (.aload_n 0, 1) := by decide +kernel
theorem dX12_call_129 : decode cX12_call 129 = .ok (.iload_n 1, 1) := by decide +kernel
theorem dX12_call_130 : decode cX12_call 130 = .ok (.iconst 4, 1) := by decide +kernel
theorem dX12_call_131 : decode cX12_call 131 = .ok (.bipush 7, 2) := by decide +kernel
theorem dX12_call_133 : decode cX12_call 133 = .ok (.invokevirtual 476, 3) := by decide +kernel
theorem dX12_call_136 : decode cX12_call 136 = .ok (.return_, 1) := by decide +kernel
theorem dX12_value_0 : decode cX12_value 0 = .ok (.aload_n 0, 1) := by decide +kernel
theorem dX12_value_1 : decode cX12_value 1 = .ok (.invokevirtual 480, 3) := by decide +kernel
theorem dX12_value_4 : decode cX12_value 4 = .ok (.istore_n 1, 1) := by decide +kernel
theorem dX12_value_5 : decode cX12_value 5 = .ok (.aload_n 0, 1) := by decide +kernel
theorem dX12_value_6 : decode cX12_value 6 = .ok (.getfield 395, 3) := by decide +kernel
theorem dX12_value_9 : decode cX12_value 9 = .ok (.ifCond .eq 4, 3) := by decide +kernel
theorem dX12_value_12 : decode cX12_value 12 = .ok (.return_, 1) := by decide +kernel
theorem dX12_value_13 : decode cX12_value 13 = .ok (.aload_n 0, 1) := by decide +kernel
theorem dX12_value_14 : decode cX12_value 14 = .ok (.getfield 197, 3) := by decide +kernel
theorem dX12_value_17 : decode cX12_value 17 = .ok (.iload_n 1, 1) := by decide +kernel
theorem dX12_value_18 : decode cX12_value 18 = .ok (.laload, 1) := by decide +kernel
theorem dX12_value_19 : decode cX12_value 19 = .ok (.lconst 0, 1) := by decide +kernel
theorem dX12_value_20 : decode cX12_value 20 = .ok (.lcmp, 1) := by decide +kernel
theorem dX12_value_21 : decode cX12_value 21 = .ok (.ifCond .ne 16, 3) := by decide +kernel
theorem dX12_value_24 : decode cX12_value 24 = .ok (.aload_n 0, 1) := by decide +kernel
theorem dX12_value_25 : decode cX12_value 25 = .ok (.aload_n 0, 1) := by decide +kernel
theorem dX12_value_26 : decode cX12_value 26 = .ok (.getfield 203, 3) := by decide +kernel
theorem dX12_value_29 : decode cX12_value 29 = .ok (.iload_n 1, 1) := by decide +kernel
theorem dX12_value_30 : decode cX12_value 30 = .ok (.laload, 1) := by decide +kernel
theorem dX12_value_31 : decode cX12_value 31 = .ok (.invokevirtual 451, 3) := by decide +kernel
theorem dX12_value_34 : decode cX12_value 34 = .ok (.goto 4, 3) := by decide +kernel
theorem dX12_value_37 : decode cX12_value 37 = .ok (.iconst (-1), 1) := by decide +kernel
theorem dX12_value_38 : decode cX12_value 38 = .ok (.istore_n 2, 1) := by decide +kernel
theorem dX12_value_39 : decode cX12_value 39 = .ok (.aload_n 0, 1) := by decide +kernel
theorem dX12_value_40 : decode cX12_value 40 = .ok (.getfield 408, 3) := by decide +kernel
theorem dX12_value_43 : decode cX12_value 43 = .ok (.bipush 40, 2) := by decide +kernel
theorem dX12_value_45 : decode cX12_value 45 = .ok (.if_icmp .ne 11, 3) := by decide +kernel
theorem dX12_value_48 : decode cX12_value 48 = .ok (.aload_n 0, 1) := by decide +kernel
theorem dX12_value_49 : decode cX12_value 49 = .ok (.iload_n 1, 1) := by decide +kernel
theorem dX12_value_50 : decode cX12_value 50 = .ok (.invokevirtual 483, 3) := by decide +kernel
theorem dX12_value_53 : decode cX12_value 53 = .ok (.goto 57, 3) := by decide +kernel
theorem dX12_value_56 : decode cX12_value 56 = .ok (.aload_n 0, 1) := by decide +kernel
theorem dX12_value_57 : decode cX12_value 57 = .ok (.getfield 408, 3) := by decide +kernel
theorem dX12_value_60 : decode cX12_value 60 = .ok (.bipush 91, 2) := by decide +kernel
theorem dX12_value_62 : decode cX12_value 62 = .ok (.if_icmp .ne 17, 3) := by decide +kernel
theorem dX12_value_65 : decode cX12_value 65 = .ok (.aload_n 0, 1) := by decide +kernel
theorem dX12_value_66 : decode cX12_value 66 = .ok (.invokevirtual 487, 3) := by decide +kernel
theorem dX12_value_69 : decode cX12_value 69 = .ok (.aload_n 0, 1) := by decide +kernel
theorem dX12_value_70 : decode cX12_value 70 = .ok (.iload_n 1, 1) := by decide +kernel
theorem dX12_value_71 : decode cX12_value 71 = .ok (.iconst 2, 1) := by decide +kernel
theorem dX12_value_72 : decode cX12_value 72 = .ok (.iconst 5, 1) := by decide +kernel
theorem dX12_value_73 : decode cX12_value 73 = .ok (.invokevirtual 476, 3) := by decide +kernel
theorem dX12_value_76 : decode cX12_value 76 = .ok (.goto 34, 3) := by decide +kernel
theorem dX12_value_79 : decode cX12_value 79 = .ok (.iload_n 2, 1) := by decide +kernel
theorem dX12_value_80 : decode cX12_value 80 = .ok (.ifCond .lt 23, 3) := by decide +kernel
theorem dX12_value_83 : decode cX12_value 83 = .ok (.aload_n 0, 1) := by decide +kernel
theorem dX12_value_84 : decode cX12_value 84 = .ok (.dup, 1) := by decide +kernel
theorem dX12_value_85 : decode cX12_value 85 = .ok (.getfield 462, 3) := by decide +kernel
theorem dX12_value_88 : decode cX12_value 88 = .ok (.iconst 1, 1) := by decide +kernel
theorem dX12_value_89 : decode cX12_value 89 = .ok (.isub, 1) := by decide +kernel
theorem dX12_value_90 : decode cX12_value 90 = .ok (.putfield 462, 3) := by decide +kernel
theorem dX12_value_93 : decode cX12_value 93 = .ok (.aload_n 0, 1) := by decide +kernel
theorem dX12_value_94 : decode cX12_value 94 = .ok (.iconst 1, 1) := by decide +kernel
theorem dX12_value_95 : decode cX12_value 95 = .ok (.iload_n 2, 1) := by decide +kernel
theorem dX12_value_96 : decode cX12_value 96 = .ok (.invokevirtual 465, 3) := by decide +kernel
theorem dX12_value_99 : decode cX12_value 99 = .ok (.pop, 1) := by decide +kernel
theorem dX12_value_100 : decode cX12_value 100 = .ok (.goto 10, 3) := by decide +kernel
theorem dX12_value_103 : decode cX12_value 103 = .ok (.aload_n 0, 1) := by decide +kernel
theorem dX12_value_104 : decode cX12_value 104 = .ok (.iload_n 1, 1) := by decide +kernel
theorem dX12_value_105 : decode cX12_value 105 = .ok (.iconst 0, 1) := by decide +kernel
theorem dX12_value_106 : decode cX12_value 106 = .ok (.iconst 3, 1) := by decide +kernel
theorem dX12_value_107 : decode cX12_value 107 = .ok (.invokevirtual 476, 3) := by decide +kernel
theorem dX12_value_110 : decode cX12_value 110 = .ok (.return_, 1) := by decide +kernel
theorem dX12_factor_0 : decode cX12_factor 0 = .ok (.aload_n 0, 1) := by decide +kernel
theorem dX12_factor_1 : decode cX12_factor 1 = .ok (.getfield 395, 3) := by decide +kernel
theorem dX12_factor_4 : decode cX12_factor 4 = .ok (.ifCond .ne 59, 3) := by decide +kernel
theorem dX12_factor_7 : decode cX12_factor 7 = .ok (.aload_n 0, 1) := by decide +kernel
theorem dX12_factor_8 : decode cX12_factor 8 = .ok (.aload_n 0, 1) := by decide +kernel
theorem dX12_factor_9 : decode cX12_factor 9 = .ok (.getfield 408, 3) := by decide +kernel
theorem dX12_factor_12 : decode cX12_factor 12 = .ok (.iconst 2, 1) := by decide +kernel
theorem dX12_factor_13 : decode cX12_factor 13 = .ok (.if_icmp .eq 39, 3) := by decide +kernel
theorem dX12_factor_16 : decode cX12_factor 16 = .ok (.aload_n 0, 1) := by decide +kernel
theorem dX12_factor_17 : decode cX12_factor 17 = .ok (.getfield 408, 3) := by decide +kernel
theorem dX12_factor_20 : decode cX12_factor 20 = .ok (.bipush 45, 2) := by decide +kernel
theorem dX12_factor_22 : decode cX12_factor 22 = .ok (.if_icmp .eq 30, 3) := by decide +kernel
theorem dX12_factor_25 : decode cX12_factor 25 = .ok (.aload_n 0, 1) := by decide +kernel
theorem dX12_factor_26 : decode cX12_factor 26 = .ok (.getfield 408, 3) := by decide +kernel
theorem dX12_factor_29 : decode cX12_factor 29 = .ok (.sipush 425, 3) := by decide +kernel
theorem dX12_factor_32 : decode cX12_factor 32 = .ok (.if_icmp .eq 20, 3) := by decide +kernel
theorem dX12_factor_35 : decode cX12_factor 35 = .ok (.aload_n 0, 1) := by decide +kernel
theorem dX12_factor_36 : decode cX12_factor 36 = .ok (.getfield 408, 3) := by decide +kernel
theorem dX12_factor_39 : decode cX12_factor 39 = .ok (.bipush 40, 2) := by decide +kernel
theorem dX12_factor_41 : decode cX12_factor 41 = .ok (.if_icmp .eq 11, 3) := by decide +kernel
theorem dX12_factor_44 : decode cX12_factor 44 = .ok (.aload_n 0, 1) := by decide +kernel
theorem dX12_factor_45 : decode cX12_factor 45 = .ok (.getfield 408, 3) := by decide +kernel
theorem dX12_factor_48 : decode cX12_factor 48 = .ok (.iconst 1, 1) := by decide +kernel
theorem dX12_factor_49 : decode cX12_factor 49 = .ok (.if_icmp .ne 7, 3) := by decide +kernel
theorem dX12_factor_52 : decode cX12_factor 52 = .ok (.iconst 1, 1) := by decide +kernel
theorem dX12_factor_53 : decode cX12_factor 53 = .ok (.goto 4, 3) := by decide +kernel
theorem dX12_factor_56 : decode cX12_factor 56 = .ok (.iconst 0, 1) := by decide +kernel
theorem dX12_factor_57 : decode cX12_factor 57 = .ok (.invokevirtual 432, 3) := by decide +kernel
theorem dX12_factor_60 : decode cX12_factor 60 = .ok (.ifCond .ne 4, 3) := by decide +kernel
theorem dX12_factor_63 : decode cX12_factor 63 = .ok (.return_, 1) := by decide +kernel
theorem dX12_factor_64 : decode cX12_factor 64 = .ok (.aload_n 0, 1) := by decide +kernel
theorem dX12_factor_65 : decode cX12_factor 65 = .ok (.getfield 408, 3) := by decide +kernel
theorem dX12_factor_68 : decode cX12_factor 68 = .ok (.istore_n 1, 1) := by decide +kernel
theorem dX12_factor_69 : decode cX12_factor 69 = .ok (.iload_n 1, 1) := by decide +kernel
theorem dX12_factor_70 : decode cX12_factor 70 = .ok (.iconst 2, 1) := by decide +kernel
theorem dX12_factor_71 : decode cX12_factor 71 = .ok (.if_icmp .ne 20, 3) := by decide +kernel
theorem dX12_factor_74 : decode cX12_factor 74 = .ok (.aload_n 0, 1) := by decide +kernel
theorem dX12_factor_75 : decode cX12_factor 75 = .ok (.iconst 0, 1) := by decide +kernel
theorem dX12_factor_76 : decode cX12_factor 76 = .ok (.aload_n 0, 1) := by decide +kernel
theorem dX12_factor_77 : decode cX12_factor 77 = .ok (.getfield 422, 3) := by decide +kernel
theorem dX12_factor_80 : decode cX12_factor 80 = .ok (.invokevirtual 465, 3) := by decide +kernel
theorem dX12_factor_83 : decode cX12_factor 83 = .ok (.pop, 1) := by decide +kernel
theorem dX12_factor_84 : decode cX12_factor 84 = .ok (.aload_n 0, 1) := by decide +kernel
theorem dX12_factor_85 : decode cX12_factor 85 = .ok (.invokevirtual 436, 3) := by decide +kernel
theorem dX12_factor_88 : decode cX12_factor 88 = .ok (.goto 114, 3) := by decide +kernel
theorem dX12_factor_91 : decode cX12_factor 91 = .ok (.iload_n 1, 1) := by decide +kernel
theorem dX12_factor_92 : decode cX12_factor 92 = .ok (.iconst 1, 1) := by decide +kernel
theorem dX12_factor_93 : decode cX12_factor 93 = .ok (.if_icmp .ne 10, 3) := by decide +kernel
theorem dX12_factor_96 : decode cX12_factor 96 = .ok (.aload_n 0, 1) := by decide +kernel
theorem dX12_factor_97 : decode cX12_factor 97 = .ok (.invokevirtual 490, 3) := by decide +kernel
theorem dX12_factor_100 : decode cX12_factor 100 = .ok (.goto 102, 3) := by decide +kernel
theorem dX12_factor_103 : decode cX12_factor 103 = .ok (.aload_n 0, 1) := by decide +kernel
theorem dX12_factor_104 : decode cX12_factor 104 = .ok (.invokevirtual 469, 3) := by decide +kernel
theorem dX12_factor_107 : decode cX12_factor 107 = .ok (.ifCond .eq 95, 3) := by decide +kernel
theorem dX12_factor_110 : decode cX12_factor 110 = .ok (.aload_n 0, 1) := by decide +kernel
theorem dX12_factor_111 : decode cX12_factor 111 = .ok (.invokevirtual 436, 3) := by decide +kernel
theorem dX12_factor_114 : decode cX12_factor 114 = .ok (.iload_n 1, 1) := by decide +kernel
theorem dX12_factor_115 : decode cX12_factor 115 = .ok (.bipush 40, 2) := by decide +kernel
theorem dX12_factor_117 : decode cX12_factor 117 = .ok (.if_icmp .ne 52, 3) := by decide +kernel
theorem dX12_factor_120 : decode cX12_factor 120 = .ok (.aload_n 0, 1) := by decide +kernel
theorem dX12_factor_121 : decode cX12_factor 121 = .ok (.invokevirtual 473, 3) := by decide +kernel
theorem dX12_factor_124 : decode cX12_factor 124 = .ok (.aload_n 0, 1) := by decide +kernel
theorem dX12_factor_125 : decode cX12_factor 125 = .ok (.getfield 395, 3) := by decide +kernel
theorem dX12_factor_128 : decode cX12_factor 128 = .ok (.ifCond .ne 74, 3) := by decide +kernel
theorem dX12_factor_131 : decode cX12_factor 131 = .ok (.aload_n 0, 1) := by decide +kernel
theorem dX12_factor_132 : decode cX12_factor 132 = .ok (.aload_n 0, 1) := by decide +kernel
theorem dX12_factor_133 : decode cX12_factor 133 = .ok (.getfield 408, 3) := by decide +kernel
theorem dX12_factor_136 : decode cX12_factor 136 = .ok (.bipush 41, 2) := by decide +kernel
theorem dX12_factor_138 : decode cX12_factor 138 = .ok (.if_icmp .ne 7, 3) := by decide +kernel
theorem dX12_factor_141 : decode cX12_factor 141 = .ok (.iconst 1, 1) := by decide +kernel
theorem dX12_factor_142 : decode cX12_factor 142 = .ok (.goto 4, 3) := by decide +kernel
theorem dX12_factor_145 : decode cX12_factor 145 = .ok (.iconst 0, 1) := by decide +kernel
theorem dX12_factor_146 : decode cX12_factor 146 = .ok (.invokevirtual 432, 3) := by decide +kernel
theorem dX12_factor_149 : decode cX12_factor 149 = .ok (.ifCond .eq 53, 3) := by decide +kernel
theorem dX12_factor_152 : decode cX12_factor 152 = .ok (.aload_n 0, 1) := by decide +kernel
theorem dX12_factor_153 : decode cX12_factor 153 = .ok (.dup, 1) := by decide +kernel
theorem dX12_factor_154 : decode cX12_factor 154 = .ok (.getfield 459, 3) := by decide +kernel
theorem dX12_factor_157 : decode cX12_factor 157 = .ok (.iconst 1, 1) := by decide +kernel
theorem dX12_factor_158 : decode cX12_factor 158 = .ok (.isub, 1) := by decide +kernel
theorem dX12_factor_159 : decode cX12_factor 159 = .ok (.putfield 459, 3) := by decide +kernel
theorem dX12_factor_162 : decode cX12_factor 162 = .ok (.aload_n 0, 1) := by decide +kernel
theorem dX12_factor_163 : decode cX12_factor 163 = .ok (.invokevirtual 436, 3) := by decide +kernel
theorem dX12_factor_166 : decode cX12_factor 166 = .ok (.goto 36, 3) := by decide +kernel
theorem dX12_factor_169 : decode cX12_factor 169 = .ok (.aload_n 0, 1) := by decide +kernel
theorem dX12_factor_170 : decode cX12_factor 170 = .ok (.invokevirtual 493, 3) := by decide +kernel
theorem dX12_factor_173 : decode cX12_factor 173 = .ok (.aload_n 0, 1) := by decide +kernel
theorem dX12_factor_174 : decode cX12_factor 174 = .ok (.dup, 1) := by decide +kernel
theorem dX12_factor_175 : decode cX12_factor 175 = .ok (.getfield 459, 3) := by decide +kernel
theorem dX12_factor_178 : decode cX12_factor 178 = .ok (.iconst 1, 1) := by decide +kernel
theorem dX12_factor_179 : decode cX12_factor 179 = .ok (.isub, 1) := by decide +kernel
theorem dX12_factor_180 : decode cX12_factor 180 = .ok (.putfield 459, 3) := by decide +kernel
theorem dX12_factor_183 : decode cX12_factor 183 = .ok (.aload_n 0, 1) := by decide +kernel
theorem dX12_factor_184 : decode cX12_factor 184 = .ok (.iload_n 1, 1) := by decide +kernel
theorem dX12_factor_185 : decode cX12_factor 185 = .ok (.bipush 45, 2) := by decide +kernel
theorem dX12_factor_187 : decode cX12_factor 187 = .ok (.if_icmp .ne 8, 3) := by decide +kernel
theorem dX12_factor_190 : decode cX12_factor 190 = .ok (.bipush 22, 2) := by decide +kernel
theorem dX12_factor_192 : decode cX12_factor 192 = .ok (.goto 5, 3) := by decide +kernel
theorem dX12_factor_195 : decode cX12_factor 195 = .ok (.bipush 23, 2) := by decide +kernel
theorem dX12_factor_197 : decode cX12_factor 197 = .ok (.iconst 0, 1) := by decide +kernel
theorem dX12_factor_198 : decode cX12_factor 198 = .ok (.invokevirtual 465, 3) := by decide +kernel
theorem dX12_factor_201 : decode cX12_factor 201 = .ok (.pop, 1) := by decide +kernel
theorem dX12_factor_202 : decode cX12_factor 202 = .ok (.return_, 1) := by decide +kernel
theorem dX12_product_0 : decode cX12_product 0 = .ok (.aload_n 0, 1) := by decide +kernel
theorem dX12_product_1 : decode cX12_product 1 = .ok (.invokevirtual 493, 3) := by decide +kernel
theorem dX12_product_4 : decode cX12_product 4 = .ok (.aload_n 0, 1) := by decide +kernel
theorem dX12_product_5 : decode cX12_product 5 = .ok (.getfield 395, 3) := by decide +kernel
theorem dX12_product_8 : decode cX12_product 8 = .ok (.ifCond .ne 79, 3) := by decide +kernel
theorem dX12_product_11 : decode cX12_product 11 = .ok (.aload_n 0, 1) := by decide +kernel
theorem dX12_product_12 : decode cX12_product 12 = .ok (.getfield 408, 3) := by decide +kernel
theorem dX12_product_15 : decode cX12_product 15 = .ok (.bipush 42, 2) := by decide +kernel
theorem dX12_product_17 : decode cX12_product 17 = .ok (.if_icmp .eq 21, 3) := by decide +kernel
theorem dX12_product_20 : decode cX12_product 20 = .ok (.aload_n 0, 1) := by decide +kernel
theorem dX12_product_21 : decode cX12_product 21 = .ok (.getfield 408, 3) := by decide +kernel
theorem dX12_product_24 : decode cX12_product 24 = .ok (.bipush 47, 2) := by decide +kernel
theorem dX12_product_26 : decode cX12_product 26 = .ok (.if_icmp .eq 12, 3) := by decide +kernel
theorem dX12_product_29 : decode cX12_product 29 = .ok (.aload_n 0, 1) := by decide +kernel
theorem dX12_product_30 : decode cX12_product 30 = .ok (.getfield 408, 3) := by decide +kernel
theorem dX12_product_33 : decode cX12_product 33 = .ok (.bipush 37, 2) := by decide +kernel
theorem dX12_product_35 : decode cX12_product 35 = .ok (.if_icmp .ne 52, 3) := by decide +kernel
theorem dX12_product_38 : decode cX12_product 38 = .ok (.aload_n 0, 1) := by decide +kernel
theorem dX12_product_39 : decode cX12_product 39 = .ok (.getfield 408, 3) := by decide +kernel
theorem dX12_product_42 : decode cX12_product 42 = .ok (.bipush 42, 2) := by decide +kernel
theorem dX12_product_44 : decode cX12_product 44 = .ok (.if_icmp .ne 8, 3) := by decide +kernel
theorem dX12_product_47 : decode cX12_product 47 = .ok (.bipush 12, 2) := by decide +kernel
theorem dX12_product_49 : decode cX12_product 49 = .ok (.goto 19, 3) := by decide +kernel
theorem dX12_product_52 : decode cX12_product 52 = .ok (.aload_n 0, 1) := by decide +kernel
theorem dX12_product_53 : decode cX12_product 53 = .ok (.getfield 408, 3) := by decide +kernel
theorem dX12_product_56 : decode cX12_product 56 = .ok (.bipush 47, 2) := by decide +kernel
theorem dX12_product_58 : decode cX12_product 58 = .ok (.if_icmp .ne 8, 3) := by decide +kernel
theorem dX12_product_61 : decode cX12_product 61 = .ok (.bipush 13, 2) := by decide +kernel
theorem dX12_product_63 : decode cX12_product 63 = .ok (.goto 5, 3) := by decide +kernel
theorem dX12_product_66 : decode cX12_product 66 = .ok (.bipush 14, 2) := by decide +kernel
theorem dX12_product_68 : decode cX12_product 68 = .ok (.istore_n 1, 1) := by decide +kernel
theorem dX12_product_69 : decode cX12_product 69 = .ok (.aload_n 0, 1) := by decide +kernel
theorem dX12_product_70 : decode cX12_product 70 = .ok (.invokevirtual 436, 3) := by decide +kernel
theorem dX12_product_73 : decode cX12_product 73 = .ok (.aload_n 0, 1) := by decide +kernel
theorem dX12_product_74 : decode cX12_product 74 = .ok (.invokevirtual 493, 3) := by decide +kernel
theorem dX12_product_77 : decode cX12_product 77 = .ok (.aload_n 0, 1) := by decide +kernel
theorem dX12_product_78 : decode cX12_product 78 = .ok (.iload_n 1, 1) := by decide +kernel
theorem dX12_product_79 : decode cX12_product 79 = .ok (.iconst 0, 1) := by decide +kernel
theorem dX12_product_80 : decode cX12_product 80 = .ok (.invokevirtual 465, 3) := by decide +kernel
theorem dX12_product_83 : decode cX12_product 83 = .ok (.pop, 1) := by decide +kernel
theorem dX12_product_84 : decode cX12_product 84 = .ok (.goto (-80), 3) := by decide +kernel
theorem dX12_product_87 : decode cX12_product 87 = .ok (.return_, 1) := by decide +kernel
theorem dX12_sum_0 : decode cX12_sum 0 = .ok (.aload_n 0, 1) := by decide +kernel
theorem dX12_sum_1 : decode cX12_sum 1 = .ok (.invokevirtual 496, 3) := by decide +kernel
theorem dX12_sum_4 : decode cX12_sum 4 = .ok (.aload_n 0, 1) := by decide +kernel
theorem dX12_sum_5 : decode cX12_sum 5 = .ok (.getfield 395, 3) := by decide +kernel
theorem dX12_sum_8 : decode cX12_sum 8 = .ok (.ifCond .ne 56, 3) := by decide +kernel
theorem dX12_sum_11 : decode cX12_sum 11 = .ok (.aload_n 0, 1) := by decide +kernel
theorem dX12_sum_12 : decode cX12_sum 12 = .ok (.getfield 408, 3) := by decide +kernel
theorem dX12_sum_15 : decode cX12_sum 15 = .ok (.bipush 43, 2) := by decide +kernel
theorem dX12_sum_17 : decode cX12_sum 17 = .ok (.if_icmp .eq 12, 3) := by decide +kernel
theorem dX12_sum_20 : decode cX12_sum 20 = .ok (.aload_n 0, 1) := by decide +kernel
theorem dX12_sum_21 : decode cX12_sum 21 = .ok (.getfield 408, 3) := by decide +kernel
theorem dX12_sum_24 : decode cX12_sum 24 = .ok (.bipush 45, 2) := by decide +kernel
theorem dX12_sum_26 : decode cX12_sum 26 = .ok (.if_icmp .ne 38, 3) := by decide +kernel
theorem dX12_sum_29 : decode cX12_sum 29 = .ok (.aload_n 0, 1) := by decide +kernel
theorem dX12_sum_30 : decode cX12_sum 30 = .ok (.getfield 408, 3) := by decide +kernel
theorem dX12_sum_33 : decode cX12_sum 33 = .ok (.bipush 43, 2) := by decide +kernel
theorem dX12_sum_35 : decode cX12_sum 35 = .ok (.if_icmp .ne 8, 3) := by decide +kernel
theorem dX12_sum_38 : decode cX12_sum 38 = .ok (.bipush 10, 2) := by decide +kernel
theorem dX12_sum_40 : decode cX12_sum 40 = .ok (.goto 5, 3) := by decide +kernel
theorem dX12_sum_43 : decode cX12_sum 43 = .ok (.bipush 11, 2) := by decide +kernel
theorem dX12_sum_45 : decode cX12_sum 45 = .ok (.istore_n 1, 1) := by decide +kernel
theorem dX12_sum_46 : decode cX12_sum 46 = .ok (.aload_n 0, 1) := by decide +kernel
theorem dX12_sum_47 : decode cX12_sum 47 = .ok (.invokevirtual 436, 3) := by decide +kernel
theorem dX12_sum_50 : decode cX12_sum 50 = .ok (.aload_n 0, 1) := by decide +kernel
theorem dX12_sum_51 : decode cX12_sum 51 = .ok (.invokevirtual 496, 3) := by decide +kernel
theorem dX12_sum_54 : decode cX12_sum 54 = .ok (.aload_n 0, 1) := by decide +kernel
theorem dX12_sum_55 : decode cX12_sum 55 = .ok (.iload_n 1, 1) := by decide +kernel
theorem dX12_sum_56 : decode cX12_sum 56 = .ok (.iconst 0, 1) := by decide +kernel
theorem dX12_sum_57 : decode cX12_sum 57 = .ok (.invokevirtual 465, 3) := by decide +kernel
theorem dX12_sum_60 : decode cX12_sum 60 = .ok (.pop, 1) := by decide +kernel
theorem dX12_sum_61 : decode cX12_sum 61 = .ok (.goto (-57), 3) := by decide +kernel
theorem dX12_sum_64 : decode cX12_sum 64 = .ok (.return_, 1) := by decide +kernel
theorem dX12_denied_0 : decode cX12_denied 0 = .ok (.aload_n 0, 1) := by decide +kernel
theorem dX12_denied_1 : decode cX12_denied 1 = .ok (.getfield 395, 3) := by decide +kernel
theorem dX12_denied_4 : decode cX12_denied 4 = .ok (.ifCond .ne 47, 3) := by decide +kernel
theorem dX12_denied_7 : decode cX12_denied 7 = .ok (.aload_n 0, 1) := by decide +kernel
theorem dX12_denied_8 : decode cX12_denied 8 = .ok (.getfield 408, 3) := by decide +kernel
theorem dX12_denied_11 : decode cX12_denied 11 = .ok (.sipush 428, 3) := by decide +kernel
theorem dX12_denied_14 : decode cX12_denied 14 = .ok (.if_icmp .ne 37, 3) := by decide +kernel
theorem dX12_denied_17 : decode cX12_denied 17 = .ok (.aload_n 0, 1) := by decide +kernel
theorem dX12_denied_18 : decode cX12_denied 18 = .ok (.invokevirtual 469, 3) := by decide +kernel
theorem dX12_denied_21 : decode cX12_denied 21 = .ok (.ifCond .eq 29, 3) := by decide +kernel
theorem dX12_denied_24 : decode cX12_denied 24 = .ok (.aload_n 0, 1) := by decide +kernel
theorem dX12_denied_25 : decode cX12_denied 25 = .ok (.invokevirtual 436, 3) := by decide +kernel
theorem dX12_denied_28 : decode cX12_denied 28 = .ok (.aload_n 0, 1) := by decide +kernel
theorem dX12_denied_29 : decode cX12_denied 29 = .ok (.invokevirtual 499, 3) := by decide +kernel
theorem dX12_denied_32 : decode cX12_denied 32 = .ok (.aload_n 0, 1) := by decide +kernel
theorem dX12_denied_33 : decode cX12_denied 33 = .ok (.dup, 1) := by decide +kernel
theorem dX12_denied_34 : decode cX12_denied 34 = .ok (.getfield 459, 3) := by decide +kernel
theorem dX12_denied_37 : decode cX12_denied 37 = .ok (.iconst 1, 1) := by decide +kernel
theorem dX12_denied_38 : decode cX12_denied 38 = .ok (.isub, 1) := by decide +kernel
theorem dX12_denied_39 : decode cX12_denied 39 = .ok (.putfield 459, 3) := by decide +kernel
theorem dX12_denied_42 : decode cX12_denied 42 = .ok (.aload_n 0, 1) := by decide +kernel
theorem dX12_denied_43 : decode cX12_denied 43 = .ok (.bipush 21, 2) := by decide +kernel
theorem dX12_denied_45 : decode cX12_denied 45 = .ok (.iconst 0, 1) := by decide +kernel
theorem dX12_denied_46 : decode cX12_denied 46 = .ok (.invokevirtual 465, 3) := by decide +kernel
theorem dX12_denied_49 : decode cX12_denied 49 = .ok (.pop, 1) := by decide +kernel
theorem dX12_denied_50 : decode cX12_denied 50 = .ok (.return_, 1) := by decide +kernel
theorem dX12_denied_51 : decode cX12_denied 51 = .ok (.aload_n 0, 1) := by decide +kernel
theorem dX12_denied_52 : decode cX12_denied 52 = .ok (.invokevirtual 502, 3) := by decide +kernel
theorem dX12_denied_55 : decode cX12_denied 55 = .ok (.aload_n 0, 1) := by decide +kernel
theorem dX12_denied_56 : decode cX12_denied 56 = .ok (.getfield 408, 3) := by decide +kernel
theorem dX12_denied_59 : decode cX12_denied 59 = .ok (.bipush 60, 2) := by decide +kernel
theorem dX12_denied_61 : decode cX12_denied 61 = .ok (.if_icmp .ne 8, 3) := by decide +kernel
theorem dX12_denied_64 : decode cX12_denied 64 = .ok (.bipush 15, 2) := by decide +kernel
theorem dX12_denied_66 : decode cX12_denied 66 = .ok (.goto 49, 3) := by decide +kernel
theorem dX12_denied_69 : decode cX12_denied 69 = .ok (.aload_n 0, 1) := by decide +kernel
theorem dX12_denied_70 : decode cX12_denied 70 = .ok (.getfield 408, 3) := by decide +kernel
theorem dX12_denied_73 : decode cX12_denied 73 = .ok (.sipush 300, 3) := by decide +kernel
theorem dX12_denied_76 : decode cX12_denied 76 = .ok (.if_icmp .ne 8, 3) := by decide +kernel
theorem dX12_denied_79 : decode cX12_denied 79 = .ok (.bipush 16, 2) := by decide +kernel
theorem dX12_denied_81 : decode cX12_denied 81 = .ok (.goto 34, 3) := by decide +kernel
theorem dX12_denied_84 : decode cX12_denied 84 = .ok (.aload_n 0, 1) := by decide +kernel
theorem dX12_denied_85 : decode cX12_denied 85 = .ok (.getfield 408, 3) := by decide +kernel
theorem dX12_denied_88 : decode cX12_denied 88 = .ok (.sipush 301, 3) := by decide +kernel
theorem dX12_denied_91 : decode cX12_denied 91 = .ok (.if_icmp .ne 8, 3) := by decide +kernel
theorem dX12_denied_94 : decode cX12_denied 94 = .ok (.bipush 17, 2) := by decide +kernel
theorem dX12_denied_96 : decode cX12_denied 96 = .ok (.goto 19, 3) := by decide +kernel
theorem dX12_denied_99 : decode cX12_denied 99 = .ok (.aload_n 0, 1) := by decide +kernel
theorem dX12_denied_100 : decode cX12_denied 100 = .ok (.getfield 408, 3) := by decide +kernel
theorem dX12_denied_103 : decode cX12_denied 103 = .ok (.sipush 302, 3) := by decide +kernel
theorem dX12_denied_106 : decode cX12_denied 106 = .ok (.if_icmp .ne 8, 3) := by decide +kernel
theorem dX12_denied_109 : decode cX12_denied 109 = .ok (.bipush 18, 2) := by decide +kernel
theorem dX12_denied_111 : decode cX12_denied 111 = .ok (.goto 4, 3) := by decide +kernel
theorem dX12_denied_114 : decode cX12_denied 114 = .ok (.iconst (-1), 1) := by decide +kernel
theorem dX12_denied_115 : decode cX12_denied 115 = .ok (.istore_n 1, 1) := by decide +kernel
theorem dX12_denied_116 : decode cX12_denied 116 = .ok (.aload_n 0, 1) := by decide +kernel
theorem dX12_denied_117 : decode cX12_denied 117 = .ok (.getfield 395, 3) := by decide +kernel
theorem dX12_denied_120 : decode cX12_denied 120 = .ok (.ifCond .ne 22, 3) := by decide +kernel
theorem dX12_denied_123 : decode cX12_denied 123 = .ok (.iload_n 1, 1) := by decide +kernel
theorem dX12_denied_124 : decode cX12_denied 124 = .ok (.ifCond .lt 18, 3) := by decide +kernel
theorem dX12_denied_127 : decode cX12_denied 127 = .ok (.aload_n 0, 1) := by decide +kernel
theorem dX12_denied_128 : decode cX12_denied 128 = .ok (.invokevirtual 436, 3) := by decide +kernel
theorem dX12_denied_131 : decode cX12_denied 131 = .ok (.aload_n 0, 1) := by decide +kernel
theorem dX12_denied_132 : decode cX12_denied 132 = .ok (.invokevirtual 502, 3) := by decide +kernel
theorem dX12_denied_135 : decode cX12_denied 135 = .ok (.aload_n 0, 1) := by decide +kernel
theorem dX12_denied_136 : decode cX12_denied 136 = .ok (.iload_n 1, 1) := by decide +kernel
theorem dX12_denied_137 : decode cX12_denied 137 = .ok (.iconst 0, 1) := by decide +kernel
theorem dX12_denied_138 : decode cX12_denied 138 = .ok (.invokevirtual 465, 3) := by decide +kernel
theorem dX12_denied_141 : decode cX12_denied 141 = .ok (.pop, 1) := by decide +kernel
theorem dX12_denied_142 : decode cX12_denied 142 = .ok (.return_, 1) := by decide +kernel
theorem dX12_both_0 : decode cX12_both 0 = .ok (.aload_n 0, 1) := by decide +kernel
theorem dX12_both_1 : decode cX12_both 1 = .ok (.invokevirtual 499, 3) := by decide +kernel
theorem dX12_both_4 : decode cX12_both 4 = .ok (.aload_n 0, 1) := by decide +kernel
theorem dX12_both_5 : decode cX12_both 5 = .ok (.getfield 395, 3) := by decide +kernel
theorem dX12_both_8 : decode cX12_both 8 = .ok (.ifCond .ne 32, 3) := by decide +kernel
theorem dX12_both_11 : decode cX12_both 11 = .ok (.aload_n 0, 1) := by decide +kernel
theorem dX12_both_12 : decode cX12_both 12 = .ok (.getfield 408, 3) := by decide +kernel
theorem dX12_both_15 : decode cX12_both 15 = .ok (.sipush 426, 3) := by decide +kernel
theorem dX12_both_18 : decode cX12_both 18 = .ok (.if_icmp .ne 22, 3) := by decide +kernel
theorem dX12_both_21 : decode cX12_both 21 = .ok (.aload_n 0, 1) := by decide +kernel
theorem dX12_both_22 : decode cX12_both 22 = .ok (.invokevirtual 436, 3) := by decide +kernel
theorem dX12_both_25 : decode cX12_both 25 = .ok (.aload_n 0, 1) := by decide +kernel
theorem dX12_both_26 : decode cX12_both 26 = .ok (.invokevirtual 499, 3) := by decide +kernel
theorem dX12_both_29 : decode cX12_both 29 = .ok (.aload_n 0, 1) := by decide +kernel
theorem dX12_both_30 : decode cX12_both 30 = .ok (.bipush 19, 2) := by decide +kernel
theorem dX12_both_32 : decode cX12_both 32 = .ok (.iconst 0, 1) := by decide +kernel
theorem dX12_both_33 : decode cX12_both 33 = .ok (.invokevirtual 465, 3) := by decide +kernel
theorem dX12_both_36 : decode cX12_both 36 = .ok (.pop, 1) := by decide +kernel
theorem dX12_both_37 : decode cX12_both 37 = .ok (.goto (-33), 3) := by decide +kernel
theorem dX12_both_40 : decode cX12_both 40 = .ok (.return_, 1) := by decide +kernel
theorem dX12_expr_0 : decode cX12_expr 0 = .ok (.aload_n 0, 1) := by decide +kernel
theorem dX12_expr_1 : decode cX12_expr 1 = .ok (.invokevirtual 505, 3) := by decide +kernel
theorem dX12_expr_4 : decode cX12_expr 4 = .ok (.aload_n 0, 1) := by decide +kernel
theorem dX12_expr_5 : decode cX12_expr 5 = .ok (.getfield 395, 3) := by decide +kernel
theorem dX12_expr_8 : decode cX12_expr 8 = .ok (.ifCond .ne 32, 3) := by decide +kernel
theorem dX12_expr_11 : decode cX12_expr 11 = .ok (.aload_n 0, 1) := by decide +kernel
theorem dX12_expr_12 : decode cX12_expr 12 = .ok (.getfield 408, 3) := by decide +kernel
theorem dX12_expr_15 : decode cX12_expr 15 = .ok (.sipush 427, 3) := by decide +kernel
theorem dX12_expr_18 : decode cX12_expr 18 = .ok (.if_icmp .ne 22, 3) := by decide +kernel
theorem dX12_expr_21 : decode cX12_expr 21 = .ok (.aload_n 0, 1) := by decide +kernel
theorem dX12_expr_22 : decode cX12_expr 22 = .ok (.invokevirtual 436, 3) := by decide +kernel
theorem dX12_expr_25 : decode cX12_expr 25 = .ok (.aload_n 0, 1) := by decide +kernel
theorem dX12_expr_26 : decode cX12_expr 26 = .ok (.invokevirtual 505, 3) := by decide +kernel
theorem dX12_expr_29 : decode cX12_expr 29 = .ok (.aload_n 0, 1) := by decide +kernel
theorem dX12_expr_30 : decode cX12_expr 30 = .ok (.bipush 20, 2) := by decide +kernel
theorem dX12_expr_32 : decode cX12_expr 32 = .ok (.iconst 0, 1) := by decide +kernel
theorem dX12_expr_33 : decode cX12_expr 33 = .ok (.invokevirtual 465, 3) := by decide +kernel
theorem dX12_expr_36 : decode cX12_expr 36 = .ok (.pop, 1) := by decide +kernel
theorem dX12_expr_37 : decode cX12_expr 37 = .ok (.goto (-33), 3) := by decide +kernel
theorem dX12_expr_40 : decode cX12_expr 40 = .ok (.return_, 1) := by decide +kernel
theorem dX12_block_0 : decode cX12_block 0 = .ok (.aload_n 0, 1) := by decide +kernel
theorem dX12_block_1 : decode cX12_block 1 = .ok (.getfield 395, 3) := by decide +kernel
theorem dX12_block_4 : decode cX12_block 4 = .ok (.ifCond .ne 31, 3) := by decide +kernel
theorem dX12_block_7 : decode cX12_block 7 = .ok (.aload_n 0, 1) := by decide +kernel
theorem dX12_block_8 : decode cX12_block 8 = .ok (.aload_n 0, 1) := by decide +kernel
theorem dX12_block_9 : decode cX12_block 9 = .ok (.getfield 408, 3) := by decide +kernel
theorem dX12_block_12 : decode cX12_block 12 = .ok (.bipush 123, 2) := by decide +kernel
theorem dX12_block_14 : decode cX12_block 14 = .ok (.if_icmp .ne 7, 3) := by decide +kernel
theorem dX12_block_17 : decode cX12_block 17 = .ok (.iconst 1, 1) := by decide +kernel
theorem dX12_block_18 : decode cX12_block 18 = .ok (.goto 4, 3) := by decide +kernel
theorem dX12_block_21 : decode cX12_block 21 = .ok (.iconst 0, 1) := by decide +kernel
theorem dX12_block_22 : decode cX12_block 22 = .ok (.invokevirtual 432, 3) := by decide +kernel
theorem dX12_block_25 : decode cX12_block 25 = .ok (.ifCond .eq 10, 3) := by decide +kernel
theorem dX12_block_28 : decode cX12_block 28 = .ok (.aload_n 0, 1) := by decide +kernel
theorem dX12_block_29 : decode cX12_block 29 = .ok (.invokevirtual 469, 3) := by decide +kernel
theorem dX12_block_32 : decode cX12_block 32 = .ok (.ifCond .ne 4, 3) := by decide +kernel
theorem dX12_block_35 : decode cX12_block 35 = .ok (.return_, 1) := by decide +kernel
theorem dX12_block_36 : decode cX12_block 36 = .ok (.aload_n 0, 1) := by decide +kernel
theorem dX12_block_37 : decode cX12_block 37 = .ok (.getfield 448, 3) := by decide +kernel
theorem dX12_block_40 : decode cX12_block 40 = .ok (.istore_n 1, 1) := by decide +kernel
theorem dX12_block_41 : decode cX12_block 41 = .ok (.aload_n 0, 1) := by decide +kernel
theorem dX12_block_42 : decode cX12_block 42 = .ok (.invokevirtual 436, 3) := by decide +kernel
theorem dX12_block_45 : decode cX12_block 45 = .ok (.aload_n 0, 1) := by decide +kernel
theorem dX12_block_46 : decode cX12_block 46 = .ok (.getfield 395, 3) := by decide +kernel
theorem dX12_block_49 : decode cX12_block 49 = .ok (.ifCond .ne 19, 3) := by decide +kernel
theorem dX12_block_52 : decode cX12_block 52 = .ok (.aload_n 0, 1) := by decide +kernel
theorem dX12_block_53 : decode cX12_block 53 = .ok (.getfield 408, 3) := by decide +kernel
theorem dX12_block_56 : decode cX12_block 56 = .ok (.bipush 125, 2) := by decide +kernel
theorem dX12_block_58 : decode cX12_block 58 = .ok (.if_icmp .eq 10, 3) := by decide +kernel
theorem dX12_block_61 : decode cX12_block 61 = .ok (.aload_n 0, 1) := by decide +kernel
theorem dX12_block_62 : decode cX12_block 62 = .ok (.invokevirtual 508, 3) := by decide +kernel
theorem dX12_block_65 : decode cX12_block 65 = .ok (.goto (-20), 3) := by decide +kernel
theorem dX12_block_68 : decode cX12_block 68 = .ok (.aload_n 0, 1) := by decide +kernel
theorem dX12_block_69 : decode cX12_block 69 = .ok (.dup, 1) := by decide +kernel
theorem dX12_block_70 : decode cX12_block 70 = .ok (.getfield 459, 3) := by decide +kernel
theorem dX12_block_73 : decode cX12_block 73 = .ok (.iconst 1, 1) := by decide +kernel
theorem dX12_block_74 : decode cX12_block 74 = .ok (.isub, 1) := by decide +kernel
theorem dX12_block_75 : decode cX12_block 75 = .ok (.putfield 459, 3) := by decide +kernel
theorem dX12_block_78 : decode cX12_block 78 = .ok (.aload_n 0, 1) := by decide +kernel
theorem dX12_block_79 : decode cX12_block 79 = .ok (.iload_n 1, 1) := by decide +kernel
theorem dX12_block_80 : decode cX12_block 80 = .ok (.putfield 448, 3) := by decide +kernel
theorem dX12_block_83 : decode cX12_block 83 = .ok (.return_, 1) := by decide +kernel
theorem dX12_inner_0 : decode cX12_inner 0 = .ok (.aload_n 0, 1) := by decide +kernel
theorem dX12_inner_1 : decode cX12_inner 1 = .ok (.invokevirtual 511, 3) := by decide +kernel
theorem dX12_inner_4 : decode cX12_inner 4 = .ok (.aload_n 0, 1) := by decide +kernel
theorem dX12_inner_5 : decode cX12_inner 5 = .ok (.invokevirtual 436, 3) := by decide +kernel
theorem dX12_inner_8 : decode cX12_inner 8 = .ok (.return_, 1) := by decide +kernel
theorem dX12_statement_0 : decode cX12_statement 0 = .ok (.aload_n 0, 1) := by decide +kernel
theorem dX12_statement_1 : decode cX12_statement 1 = .ok (.getfield 408, 3) := by decide +kernel
theorem dX12_statement_4 : decode cX12_statement 4 = .ok (.tableswitch 222 416 423 #[48, 104, 222, 111, 157, 157, 157, 215], 48) := by decide +kernel
theorem dX12_statement_52 : decode cX12_statement 52 = .ok (.aload_n 0, 1) := by decide +kernel
theorem dX12_statement_53 : decode cX12_statement 53 = .ok (.invokevirtual 436, 3) := by decide +kernel
theorem dX12_statement_56 : decode cX12_statement 56 = .ok (.aload_n 0, 1) := by decide +kernel
theorem dX12_statement_57 : decode cX12_statement 57 = .ok (.invokevirtual 514, 3) := by decide +kernel
theorem dX12_statement_60 : decode cX12_statement 60 = .ok (.ifCond .eq 190, 3) := by decide +kernel
theorem dX12_statement_63 : decode cX12_statement 63 = .ok (.aload_n 0, 1) := by decide +kernel
theorem dX12_statement_64 : decode cX12_statement 64 = .ok (.getfield 415, 3) := by decide +kernel
theorem dX12_statement_67 : decode cX12_statement 67 = .ok (.lstore_n 1, 1) := by decide +kernel
theorem dX12_statement_68 : decode cX12_statement 68 = .ok (.aload_n 0, 1) := by decide +kernel
theorem dX12_statement_69 : decode cX12_statement 69 = .ok (.invokevirtual 436, 3) := by decide +kernel
theorem dX12_statement_72 : decode cX12_statement 72 = .ok (.aload_n 0, 1) := by decide +kernel
theorem dX12_statement_73 : decode cX12_statement 73 = .ok (.bipush 61, 2) := by decide +kernel
theorem dX12_statement_75 : decode cX12_statement 75 = .ok (.invokevirtual 517, 3) := by decide +kernel
theorem dX12_statement_78 : decode cX12_statement 78 = .ok (.pop, 1) := by decide +kernel
theorem dX12_statement_79 : decode cX12_statement 79 = .ok (.aload_n 0, 1) := by decide +kernel
theorem dX12_statement_80 : decode cX12_statement 80 = .ok (.invokevirtual 473, 3) := by decide +kernel
theorem dX12_statement_83 : decode cX12_statement 83 = .ok (.aload_n 0, 1) := by decide +kernel
theorem dX12_statement_84 : decode cX12_statement 84 = .ok (.iconst 2, 1) := by decide +kernel
theorem dX12_statement_85 : decode cX12_statement 85 = .ok (.aload_n 0, 1) := by decide +kernel
theorem dX12_statement_86 : decode cX12_statement 86 = .ok (.getfield 448, 3) := by decide +kernel
theorem dX12_statement_89 : decode cX12_statement 89 = .ok (.invokevirtual 465, 3) := by decide +kernel
theorem dX12_statement_92 : decode cX12_statement 92 = .ok (.pop, 1) := by decide +kernel
theorem dX12_statement_93 : decode cX12_statement 93 = .ok (.aload_n 0, 1) := by decide +kernel
theorem dX12_statement_94 : decode cX12_statement 94 = .ok (.bipush 59, 2) := by decide +kernel
theorem dX12_statement_96 : decode cX12_statement 96 = .ok (.invokevirtual 517, 3) := by decide +kernel
theorem dX12_statement_99 : decode cX12_statement 99 = .ok (.pop, 1) := by decide +kernel
theorem dX12_statement_100 : decode cX12_statement 100 = .ok (.aload_n 0, 1) := by decide +kernel
theorem dX12_statement_101 : decode cX12_statement 101 = .ok (.lload_n 1, 1) := by decide +kernel
theorem dX12_statement_102 : decode cX12_statement 102 = .ok (.invokevirtual 520, 3) := by decide +kernel
theorem dX12_statement_105 : decode cX12_statement 105 = .ok (.goto 145, 3) := by decide +kernel
theorem dX12_statement_108 : decode cX12_statement 108 = .ok (.aload_n 0, 1) := by decide +kernel
theorem dX12_statement_109 : decode cX12_statement 109 = .ok (.invokevirtual 524, 3) := by decide +kernel
theorem dX12_statement_112 : decode cX12_statement 112 = .ok (.goto 138, 3) := by decide +kernel
theorem dX12_statement_115 : decode cX12_statement 115 = .ok (.aload_n 0, 1) := by decide +kernel
theorem dX12_statement_116 : decode cX12_statement 116 = .ok (.getfield 439, 3) := by decide +kernel
theorem dX12_statement_119 : decode cX12_statement 119 = .ok (.istore_n 1, 1) := by decide +kernel
theorem dX12_statement_120 : decode cX12_statement 120 = .ok (.aload_n 0, 1) := by decide +kernel
theorem dX12_statement_121 : decode cX12_statement 121 = .ok (.invokevirtual 436, 3) := by decide +kernel
theorem dX12_statement_124 : decode cX12_statement 124 = .ok (.aload_n 0, 1) := by decide +kernel
theorem dX12_statement_125 : decode cX12_statement 125 = .ok (.invokevirtual 473, 3) := by decide +kernel
theorem dX12_statement_128 : decode cX12_statement 128 = .ok (.aload_n 0, 1) := by decide +kernel
theorem dX12_statement_129 : decode cX12_statement 129 = .ok (.bipush 24, 2) := by decide +kernel
theorem dX12_statement_131 : decode cX12_statement 131 = .ok (.iconst 0, 1) := by decide +kernel
theorem dX12_statement_132 : decode cX12_statement 132 = .ok (.invokevirtual 465, 3) := by decide +kernel
theorem dX12_statement_135 : decode cX12_statement 135 = .ok (.istore_n 2, 1) := by decide +kernel
theorem dX12_statement_136 : decode cX12_statement 136 = .ok (.aload_n 0, 1) := by decide +kernel
theorem dX12_statement_137 : decode cX12_statement 137 = .ok (.invokevirtual 527, 3) := by decide +kernel
theorem dX12_statement_140 : decode cX12_statement 140 = .ok (.aload_n 0, 1) := by decide +kernel
theorem dX12_statement_141 : decode cX12_statement 141 = .ok (.bipush 25, 2) := by decide +kernel
theorem dX12_statement_143 : decode cX12_statement 143 = .ok (.iload_n 1, 1) := by decide +kernel
theorem dX12_statement_144 : decode cX12_statement 144 = .ok (.invokevirtual 465, 3) := by decide +kernel
theorem dX12_statement_147 : decode cX12_statement 147 = .ok (.pop, 1) := by decide +kernel
theorem dX12_statement_148 : decode cX12_statement 148 = .ok (.aload_n 0, 1) := by decide +kernel
theorem dX12_statement_149 : decode cX12_statement 149 = .ok (.getfield 179, 3) := by decide +kernel
theorem dX12_statement_152 : decode cX12_statement 152 = .ok (.iload_n 2, 1) := by decide +kernel
theorem dX12_statement_153 : decode cX12_statement 153 = .ok (.aload_n 0, 1) := by decide +kernel
theorem dX12_statement_154 : decode cX12_statement 154 = .ok (.getfield 439, 3) := by decide +kernel
theorem dX12_statement_157 : decode cX12_statement 157 = .ok (.iastore, 1) := by decide +kernel
theorem dX12_statement_158 : decode cX12_statement 158 = .ok (.goto 92, 3) := by decide +kernel
theorem dX12_statement_161 : decode cX12_statement 161 = .ok (.aload_n 0, 1) := by decide +kernel
theorem dX12_statement_162 : decode cX12_statement 162 = .ok (.getfield 408, 3) := by decide +kernel
theorem dX12_statement_165 : decode cX12_statement 165 = .ok (.sipush 420, 3) := by decide +kernel
theorem dX12_statement_168 : decode cX12_statement 168 = .ok (.if_icmp .ne 8, 3) := by decide +kernel
theorem dX12_statement_171 : decode cX12_statement 171 = .ok (.bipush 8, 2) := by decide +kernel
theorem dX12_statement_173 : decode cX12_statement 173 = .ok (.goto 20, 3) := by decide +kernel
theorem dX12_statement_176 : decode cX12_statement 176 = .ok (.aload_n 0, 1) := by decide +kernel
theorem dX12_statement_177 : decode cX12_statement 177 = .ok (.getfield 408, 3) := by decide +kernel
theorem dX12_statement_180 : decode cX12_statement 180 = .ok (.sipush 421, 3) := by decide +kernel
theorem dX12_statement_183 : decode cX12_statement 183 = .ok (.if_icmp .ne 8, 3) := by decide +kernel
theorem dX12_statement_186 : decode cX12_statement 186 = .ok (.bipush 28, 2) := by decide +kernel
theorem dX12_statement_188 : decode cX12_statement 188 = .ok (.goto 5, 3) := by decide +kernel
theorem dX12_statement_191 : decode cX12_statement 191 = .ok (.bipush 29, 2) := by decide +kernel
theorem dX12_statement_193 : decode cX12_statement 193 = .ok (.istore_n 3, 1) := by decide +kernel
theorem dX12_statement_194 : decode cX12_statement 194 = .ok (.aload_n 0, 1) := by decide +kernel
theorem dX12_statement_195 : decode cX12_statement 195 = .ok (.invokevirtual 436, 3) := by decide +kernel
theorem dX12_statement_198 : decode cX12_statement 198 = .ok (.aload_n 0, 1) := by decide +kernel
theorem dX12_statement_199 : decode cX12_statement 199 = .ok (.invokevirtual 473, 3) := by decide +kernel
theorem dX12_statement_202 : decode cX12_statement 202 = .ok (.aload_n 0, 1) := by decide +kernel
theorem dX12_statement_203 : decode cX12_statement 203 = .ok (.iload_n 3, 1) := by decide +kernel
theorem dX12_statement_204 : decode cX12_statement 204 = .ok (.iconst 0, 1) := by decide +kernel
theorem dX12_statement_205 : decode cX12_statement 205 = .ok (.invokevirtual 465, 3) := by decide +kernel
theorem dX12_statement_208 : decode cX12_statement 208 = .ok (.pop, 1) := by decide +kernel
theorem dX12_statement_209 : decode cX12_statement 209 = .ok (.aload_n 0, 1) := by decide +kernel
theorem dX12_statement_210 : decode cX12_statement 210 = .ok (.bipush 59, 2) := by decide +kernel
theorem dX12_statement_212 : decode cX12_statement 212 = .ok (.invokevirtual 517, 3) := by decide +kernel
theorem dX12_statement_215 : decode cX12_statement 215 = .ok (.pop, 1) := by decide +kernel
theorem dX12_statement_216 : decode cX12_statement 216 = .ok (.goto 34, 3) := by decide +kernel
theorem dX12_statement_219 : decode cX12_statement 219 = .ok (.aload_n 0, 1) := by decide +kernel
theorem dX12_statement_220 : decode cX12_statement 220 = .ok (.invokevirtual 530, 3) := by decide +kernel
theorem dX12_statement_223 : decode cX12_statement 223 = .ok (.goto 27, 3) := by decide +kernel
theorem dX12_statement_226 : decode cX12_statement 226 = .ok (.aload_n 0, 1) := by decide +kernel
theorem dX12_statement_227 : decode cX12_statement 227 = .ok (.aload_n 0, 1) := by decide +kernel
theorem dX12_statement_228 : decode cX12_statement 228 = .ok (.getfield 408, 3) := by decide +kernel
theorem dX12_statement_231 : decode cX12_statement 231 = .ok (.iconst 1, 1) := by decide +kernel
theorem dX12_statement_232 : decode cX12_statement 232 = .ok (.if_icmp .ne 7, 3) := by decide +kernel
theorem dX12_statement_235 : decode cX12_statement 235 = .ok (.iconst 1, 1) := by decide +kernel
theorem dX12_statement_236 : decode cX12_statement 236 = .ok (.goto 4, 3) := by decide +kernel
theorem dX12_statement_239 : decode cX12_statement 239 = .ok (.iconst 0, 1) := by decide +kernel
theorem dX12_statement_240 : decode cX12_statement 240 = .ok (.invokevirtual 432, 3) := by decide +kernel
theorem dX12_statement_243 : decode cX12_statement 243 = .ok (.ifCond .eq 7, 3) := by decide +kernel
theorem dX12_statement_246 : decode cX12_statement 246 = .ok (.aload_n 0, 1) := by decide +kernel
theorem dX12_statement_247 : decode cX12_statement 247 = .ok (.invokevirtual 533, 3) := by decide +kernel
theorem dX12_statement_250 : decode cX12_statement 250 = .ok (.return_, 1) := by decide +kernel
theorem dX12_choice_0 : decode cX12_choice 0 = .ok (.aload_n 0, 1) := by decide +kernel
theorem dX12_choice_1 : decode cX12_choice 1 = .ok (.invokevirtual 436, 3) := by decide +kernel
theorem dX12_choice_4 : decode cX12_choice 4 = .ok (.aload_n 0, 1) := by decide +kernel
theorem dX12_choice_5 : decode cX12_choice 5 = .ok (.invokevirtual 473, 3) := by decide +kernel
theorem dX12_choice_8 : decode cX12_choice 8 = .ok (.aload_n 0, 1) := by decide +kernel
theorem dX12_choice_9 : decode cX12_choice 9 = .ok (.bipush 24, 2) := by decide +kernel
theorem dX12_choice_11 : decode cX12_choice 11 = .ok (.iconst 0, 1) := by decide +kernel
theorem dX12_choice_12 : decode cX12_choice 12 = .ok (.invokevirtual 465, 3) := by decide +kernel
theorem dX12_choice_15 : decode cX12_choice 15 = .ok (.istore_n 1, 1) := by decide +kernel
theorem dX12_choice_16 : decode cX12_choice 16 = .ok (.aload_n 0, 1) := by decide +kernel
theorem dX12_choice_17 : decode cX12_choice 17 = .ok (.invokevirtual 527, 3) := by decide +kernel
theorem dX12_choice_20 : decode cX12_choice 20 = .ok (.aload_n 0, 1) := by decide +kernel
theorem dX12_choice_21 : decode cX12_choice 21 = .ok (.getfield 395, 3) := by decide +kernel
theorem dX12_choice_24 : decode cX12_choice 24 = .ok (.ifCond .ne 52, 3) := by decide +kernel
theorem dX12_choice_27 : decode cX12_choice 27 = .ok (.aload_n 0, 1) := by decide +kernel
theorem dX12_choice_28 : decode cX12_choice 28 = .ok (.getfield 408, 3) := by decide +kernel
theorem dX12_choice_31 : decode cX12_choice 31 = .ok (.sipush 418, 3) := by decide +kernel
theorem dX12_choice_34 : decode cX12_choice 34 = .ok (.if_icmp .ne 42, 3) := by decide +kernel
theorem dX12_choice_37 : decode cX12_choice 37 = .ok (.aload_n 0, 1) := by decide +kernel
theorem dX12_choice_38 : decode cX12_choice 38 = .ok (.bipush 25, 2) := by decide +kernel
theorem dX12_choice_40 : decode cX12_choice 40 = .ok (.iconst 0, 1) := by decide +kernel
theorem dX12_choice_41 : decode cX12_choice 41 = .ok (.invokevirtual 465, 3) := by decide +kernel
theorem dX12_choice_44 : decode cX12_choice 44 = .ok (.istore_n 2, 1) := by decide +kernel
theorem dX12_choice_45 : decode cX12_choice 45 = .ok (.aload_n 0, 1) := by decide +kernel
theorem dX12_choice_46 : decode cX12_choice 46 = .ok (.getfield 179, 3) := by decide +kernel
theorem dX12_choice_49 : decode cX12_choice 49 = .ok (.iload_n 1, 1) := by decide +kernel
theorem dX12_choice_50 : decode cX12_choice 50 = .ok (.aload_n 0, 1) := by decide +kernel
theorem dX12_choice_51 : decode cX12_choice 51 = .ok (.getfield 439, 3) := by decide +kernel
theorem dX12_choice_54 : decode cX12_choice 54 = .ok (.iastore, 1) := by decide +kernel
theorem dX12_choice_55 : decode cX12_choice 55 = .ok (.aload_n 0, 1) := by decide +kernel
theorem dX12_choice_56 : decode cX12_choice 56 = .ok (.invokevirtual 436, 3) := by decide +kernel
theorem dX12_choice_59 : decode cX12_choice 59 = .ok (.aload_n 0, 1) := by decide +kernel
theorem dX12_choice_60 : decode cX12_choice 60 = .ok (.invokevirtual 527, 3) := by decide +kernel
theorem dX12_choice_63 : decode cX12_choice 63 = .ok (.aload_n 0, 1) := by decide +kernel
theorem dX12_choice_64 : decode cX12_choice 64 = .ok (.getfield 179, 3) := by decide +kernel
theorem dX12_choice_67 : decode cX12_choice 67 = .ok (.iload_n 2, 1) := by decide +kernel
theorem dX12_choice_68 : decode cX12_choice 68 = .ok (.aload_n 0, 1) := by decide +kernel
theorem dX12_choice_69 : decode cX12_choice 69 = .ok (.getfield 439, 3) := by decide +kernel
theorem dX12_choice_72 : decode cX12_choice 72 = .ok (.iastore, 1) := by decide +kernel
theorem dX12_choice_73 : decode cX12_choice 73 = .ok (.goto 13, 3) := by decide +kernel
theorem dX12_choice_76 : decode cX12_choice 76 = .ok (.aload_n 0, 1) := by decide +kernel
theorem dX12_choice_77 : decode cX12_choice 77 = .ok (.getfield 179, 3) := by decide +kernel
theorem dX12_choice_80 : decode cX12_choice 80 = .ok (.iload_n 1, 1) := by decide +kernel
theorem dX12_choice_81 : decode cX12_choice 81 = .ok (.aload_n 0, 1) := by decide +kernel
theorem dX12_choice_82 : decode cX12_choice 82 = .ok (.getfield 439, 3) := by decide +kernel
theorem dX12_choice_85 : decode cX12_choice 85 = .ok (.iastore, 1) := by decide +kernel
theorem dX12_choice_86 : decode cX12_choice 86 = .ok (.return_, 1) := by decide +kernel
theorem dX12_tryOne_0 : decode cX12_tryOne 0 = .ok (.aload_n 0, 1) := by decide +kernel
theorem dX12_tryOne_1 : decode cX12_tryOne 1 = .ok (.bipush 26, 2) := by decide +kernel
theorem dX12_tryOne_3 : decode cX12_tryOne 3 = .ok (.iconst 0, 1) := by decide +kernel
theorem dX12_tryOne_4 : decode cX12_tryOne 4 = .ok (.invokevirtual 465, 3) := by decide +kernel
theorem dX12_tryOne_7 : decode cX12_tryOne 7 = .ok (.istore_n 1, 1) := by decide +kernel
theorem dX12_tryOne_8 : decode cX12_tryOne 8 = .ok (.aload_n 0, 1) := by decide +kernel
theorem dX12_tryOne_9 : decode cX12_tryOne 9 = .ok (.invokevirtual 436, 3) := by decide +kernel
theorem dX12_tryOne_12 : decode cX12_tryOne 12 = .ok (.aload_n 0, 1) := by decide +kernel
theorem dX12_tryOne_13 : decode cX12_tryOne 13 = .ok (.invokevirtual 527, 3) := by decide +kernel
theorem dX12_tryOne_16 : decode cX12_tryOne 16 = .ok (.aload_n 0, 1) := by decide +kernel
theorem dX12_tryOne_17 : decode cX12_tryOne 17 = .ok (.bipush 27, 2) := by decide +kernel
theorem dX12_tryOne_19 : decode cX12_tryOne 19 = .ok (.iconst 0, 1) := by decide +kernel
theorem dX12_tryOne_20 : decode cX12_tryOne 20 = .ok (.invokevirtual 465, 3) := by decide +kernel
theorem dX12_tryOne_23 : decode cX12_tryOne 23 = .ok (.pop, 1) := by decide +kernel
theorem dX12_tryOne_24 : decode cX12_tryOne 24 = .ok (.aload_n 0, 1) := by decide +kernel
theorem dX12_tryOne_25 : decode cX12_tryOne 25 = .ok (.bipush 25, 2) := by decide +kernel
theorem dX12_tryOne_27 : decode cX12_tryOne 27 = .ok (.iconst 0, 1) := by decide +kernel
theorem dX12_tryOne_28 : decode cX12_tryOne 28 = .ok (.invokevirtual 465, 3) := by decide +kernel
theorem dX12_tryOne_31 : decode cX12_tryOne 31 = .ok (.istore_n 2, 1) := by decide +kernel
theorem dX12_tryOne_32 : decode cX12_tryOne 32 = .ok (.aload_n 0, 1) := by decide +kernel
theorem dX12_tryOne_33 : decode cX12_tryOne 33 = .ok (.getfield 179, 3) := by decide +kernel
theorem dX12_tryOne_36 : decode cX12_tryOne 36 = .ok (.iload_n 1, 1) := by decide +kernel
theorem dX12_tryOne_37 : decode cX12_tryOne 37 = .ok (.aload_n 0, 1) := by decide +kernel
theorem dX12_tryOne_38 : decode cX12_tryOne 38 = .ok (.getfield 439, 3) := by decide +kernel
theorem dX12_tryOne_41 : decode cX12_tryOne 41 = .ok (.iastore, 1) := by decide +kernel
theorem dX12_tryOne_42 : decode cX12_tryOne 42 = .ok (.aload_n 0, 1) := by decide +kernel
theorem dX12_tryOne_43 : decode cX12_tryOne 43 = .ok (.sipush 424, 3) := by decide +kernel
theorem dX12_tryOne_46 : decode cX12_tryOne 46 = .ok (.invokevirtual 517, 3) := by decide +kernel
theorem dX12_tryOne_49 : decode cX12_tryOne 49 = .ok (.pop, 1) := by decide +kernel
theorem dX12_tryOne_50 : decode cX12_tryOne 50 = .ok (.aload_n 0, 1) := by decide +kernel
theorem dX12_tryOne_51 : decode cX12_tryOne 51 = .ok (.invokevirtual 514, 3) := by decide +kernel
theorem dX12_tryOne_54 : decode cX12_tryOne 54 = .ok (.ifCond .eq 49, 3) := by decide +kernel
theorem dX12_tryOne_57 : decode cX12_tryOne 57 = .ok (.aload_n 0, 1) := by decide +kernel
theorem dX12_tryOne_58 : decode cX12_tryOne 58 = .ok (.iconst 2, 1) := by decide +kernel
theorem dX12_tryOne_59 : decode cX12_tryOne 59 = .ok (.aload_n 0, 1) := by decide +kernel
theorem dX12_tryOne_60 : decode cX12_tryOne 60 = .ok (.getfield 448, 3) := by decide +kernel
theorem dX12_tryOne_63 : decode cX12_tryOne 63 = .ok (.invokevirtual 465, 3) := by decide +kernel
theorem dX12_tryOne_66 : decode cX12_tryOne 66 = .ok (.pop, 1) := by decide +kernel
theorem dX12_tryOne_67 : decode cX12_tryOne 67 = .ok (.aload_n 0, 1) := by decide +kernel
theorem dX12_tryOne_68 : decode cX12_tryOne 68 = .ok (.aload_n 0, 1) := by decide +kernel
theorem dX12_tryOne_69 : decode cX12_tryOne 69 = .ok (.getfield 415, 3) := by decide +kernel
theorem dX12_tryOne_72 : decode cX12_tryOne 72 = .ok (.invokevirtual 520, 3) := by decide +kernel
theorem dX12_tryOne_75 : decode cX12_tryOne 75 = .ok (.aload_n 0, 1) := by decide +kernel
theorem dX12_tryOne_76 : decode cX12_tryOne 76 = .ok (.invokevirtual 436, 3) := by decide +kernel
theorem dX12_tryOne_79 : decode cX12_tryOne 79 = .ok (.aload_n 0, 1) := by decide +kernel
theorem dX12_tryOne_80 : decode cX12_tryOne 80 = .ok (.invokevirtual 527, 3) := by decide +kernel
theorem dX12_tryOne_83 : decode cX12_tryOne 83 = .ok (.aload_n 0, 1) := by decide +kernel
theorem dX12_tryOne_84 : decode cX12_tryOne 84 = .ok (.dup, 1) := by decide +kernel
theorem dX12_tryOne_85 : decode cX12_tryOne 85 = .ok (.getfield 448, 3) := by decide +kernel
theorem dX12_tryOne_88 : decode cX12_tryOne 88 = .ok (.iconst 1, 1) := by decide +kernel
theorem dX12_tryOne_89 : decode cX12_tryOne 89 = .ok (.isub, 1) := by decide +kernel
theorem dX12_tryOne_90 : decode cX12_tryOne 90 = .ok (.putfield 448, 3) := by decide +kernel
theorem dX12_tryOne_93 : decode cX12_tryOne 93 = .ok (.aload_n 0, 1) := by decide +kernel
theorem dX12_tryOne_94 : decode cX12_tryOne 94 = .ok (.getfield 179, 3) := by decide +kernel
theorem dX12_tryOne_97 : decode cX12_tryOne 97 = .ok (.iload_n 2, 1) := by decide +kernel
theorem dX12_tryOne_98 : decode cX12_tryOne 98 = .ok (.aload_n 0, 1) := by decide +kernel
theorem dX12_tryOne_99 : decode cX12_tryOne 99 = .ok (.getfield 439, 3) := by decide +kernel
theorem dX12_tryOne_102 : decode cX12_tryOne 102 = .ok (.iastore, 1) := by decide +kernel
theorem dX12_tryOne_103 : decode cX12_tryOne 103 = .ok (.return_, 1) := by decide +kernel
theorem dX12_given_0 : decode cX12_given 0 = .ok (.aload_n 0, 1) := by decide +kernel
theorem dX12_given_1 : decode cX12_given 1 = .ok (.invokevirtual 480, 3) := by decide +kernel
theorem dX12_given_4 : decode cX12_given 4 = .ok (.istore_n 1, 1) := by decide +kernel
theorem dX12_given_5 : decode cX12_given 5 = .ok (.aload_n 0, 1) := by decide +kernel
theorem dX12_given_6 : decode cX12_given 6 = .ok (.getfield 395, 3) := by decide +kernel
theorem dX12_given_9 : decode cX12_given 9 = .ok (.ifCond .eq 4, 3) := by decide +kernel
theorem dX12_given_12 : decode cX12_given 12 = .ok (.return_, 1) := by decide +kernel
theorem dX12_given_13 : decode cX12_given 13 = .ok (.aload_n 0, 1) := by decide +kernel
theorem dX12_given_14 : decode cX12_given 14 = .ok (.getfield 197, 3) := by decide +kernel
theorem dX12_given_17 : decode cX12_given 17 = .ok (.iload_n 1, 1) := by decide +kernel
theorem dX12_given_18 : decode cX12_given 18 = .ok (.laload, 1) := by decide +kernel
theorem dX12_given_19 : decode cX12_given 19 = .ok (.lconst 0, 1) := by decide +kernel
theorem dX12_given_20 : decode cX12_given 20 = .ok (.lcmp, 1) := by decide +kernel
theorem dX12_given_21 : decode cX12_given 21 = .ok (.ifCond .ne 16, 3) := by decide +kernel
theorem dX12_given_24 : decode cX12_given 24 = .ok (.aload_n 0, 1) := by decide +kernel
theorem dX12_given_25 : decode cX12_given 25 = .ok (.aload_n 0, 1) := by decide +kernel
theorem dX12_given_26 : decode cX12_given 26 = .ok (.getfield 203, 3) := by decide +kernel
theorem dX12_given_29 : decode cX12_given 29 = .ok (.iload_n 1, 1) := by decide +kernel
theorem dX12_given_30 : decode cX12_given 30 = .ok (.laload, 1) := by decide +kernel
theorem dX12_given_31 : decode cX12_given 31 = .ok (.invokevirtual 451, 3) := by decide +kernel
theorem dX12_given_34 : decode cX12_given 34 = .ok (.goto 4, 3) := by decide +kernel
theorem dX12_given_37 : decode cX12_given 37 = .ok (.iconst (-1), 1) := by decide +kernel
theorem dX12_given_38 : decode cX12_given 38 = .ok (.istore_n 2, 1) := by decide +kernel
theorem dX12_given_39 : decode cX12_given 39 = .ok (.aload_n 0, 1) := by decide +kernel
theorem dX12_given_40 : decode cX12_given 40 = .ok (.getfield 408, 3) := by decide +kernel
theorem dX12_given_43 : decode cX12_given 43 = .ok (.bipush 40, 2) := by decide +kernel
theorem dX12_given_45 : decode cX12_given 45 = .ok (.if_icmp .ne 26, 3) := by decide +kernel
theorem dX12_given_48 : decode cX12_given 48 = .ok (.aload_n 0, 1) := by decide +kernel
theorem dX12_given_49 : decode cX12_given 49 = .ok (.iload_n 1, 1) := by decide +kernel
theorem dX12_given_50 : decode cX12_given 50 = .ok (.invokevirtual 483, 3) := by decide +kernel
theorem dX12_given_53 : decode cX12_given 53 = .ok (.aload_n 0, 1) := by decide +kernel
theorem dX12_given_54 : decode cX12_given 54 = .ok (.bipush 59, 2) := by decide +kernel
theorem dX12_given_56 : decode cX12_given 56 = .ok (.invokevirtual 517, 3) := by decide +kernel
theorem dX12_given_59 : decode cX12_given 59 = .ok (.pop, 1) := by decide +kernel
theorem dX12_given_60 : decode cX12_given 60 = .ok (.aload_n 0, 1) := by decide +kernel
theorem dX12_given_61 : decode cX12_given 61 = .ok (.bipush 9, 2) := by decide +kernel
theorem dX12_given_63 : decode cX12_given 63 = .ok (.iconst 0, 1) := by decide +kernel
theorem dX12_given_64 : decode cX12_given 64 = .ok (.invokevirtual 465, 3) := by decide +kernel
theorem dX12_given_67 : decode cX12_given 67 = .ok (.pop, 1) := by decide +kernel
theorem dX12_given_68 : decode cX12_given 68 = .ok (.goto 100, 3) := by decide +kernel
theorem dX12_given_71 : decode cX12_given 71 = .ok (.aload_n 0, 1) := by decide +kernel
theorem dX12_given_72 : decode cX12_given 72 = .ok (.getfield 408, 3) := by decide +kernel
theorem dX12_given_75 : decode cX12_given 75 = .ok (.bipush 91, 2) := by decide +kernel
theorem dX12_given_77 : decode cX12_given 77 = .ok (.if_icmp .ne 36, 3) := by decide +kernel
theorem dX12_given_80 : decode cX12_given 80 = .ok (.aload_n 0, 1) := by decide +kernel
theorem dX12_given_81 : decode cX12_given 81 = .ok (.invokevirtual 487, 3) := by decide +kernel
theorem dX12_given_84 : decode cX12_given 84 = .ok (.aload_n 0, 1) := by decide +kernel
theorem dX12_given_85 : decode cX12_given 85 = .ok (.bipush 61, 2) := by decide +kernel
theorem dX12_given_87 : decode cX12_given 87 = .ok (.invokevirtual 517, 3) := by decide +kernel
theorem dX12_given_90 : decode cX12_given 90 = .ok (.pop, 1) := by decide +kernel
theorem dX12_given_91 : decode cX12_given 91 = .ok (.aload_n 0, 1) := by decide +kernel
theorem dX12_given_92 : decode cX12_given 92 = .ok (.invokevirtual 473, 3) := by decide +kernel
theorem dX12_given_95 : decode cX12_given 95 = .ok (.aload_n 0, 1) := by decide +kernel
theorem dX12_given_96 : decode cX12_given 96 = .ok (.iload_n 1, 1) := by decide +kernel
theorem dX12_given_97 : decode cX12_given 97 = .ok (.iconst 3, 1) := by decide +kernel
theorem dX12_given_98 : decode cX12_given 98 = .ok (.bipush 6, 2) := by decide +kernel
theorem dX12_given_100 : decode cX12_given 100 = .ok (.invokevirtual 476, 3) := by decide +kernel
theorem dX12_given_103 : decode cX12_given 103 = .ok (.aload_n 0, 1) := by decide +kernel
theorem dX12_given_104 : decode cX12_given 104 = .ok (.bipush 59, 2) := by decide +kernel
theorem dX12_given_106 : decode cX12_given 106 = .ok (.invokevirtual 517, 3) := by decide +kernel
theorem dX12_given_109 : decode cX12_given 109 = .ok (.pop, 1) := by decide +kernel
theorem dX12_given_110 : decode cX12_given 110 = .ok (.goto 58, 3) := by decide +kernel
theorem dX12_given_113 : decode cX12_given 113 = .ok (.aload_n 0, 1) := by decide +kernel
theorem dX12_given_114 : decode cX12_given 114 = .ok (.bipush 61, 2) := by decide +kernel
theorem dX12_given_116 : decode cX12_given 116 = .ok (.invokevirtual 517, 3) := by decide +kernel
theorem dX12_given_119 : decode cX12_given 119 = .ok (.ifCond .eq 49, 3) := by decide +kernel
theorem dX12_given_122 : decode cX12_given 122 = .ok (.iload_n 2, 1) := by decide +kernel
theorem dX12_given_123 : decode cX12_given 123 = .ok (.ifCond .lt 13, 3) := by decide +kernel
theorem dX12_given_126 : decode cX12_given 126 = .ok (.aload_n 0, 1) := by decide +kernel
theorem dX12_given_127 : decode cX12_given 127 = .ok (.dup, 1) := by decide +kernel
theorem dX12_given_128 : decode cX12_given 128 = .ok (.getfield 462, 3) := by decide +kernel
theorem dX12_given_131 : decode cX12_given 131 = .ok (.iconst 1, 1) := by decide +kernel
theorem dX12_given_132 : decode cX12_given 132 = .ok (.isub, 1) := by decide +kernel
theorem dX12_given_133 : decode cX12_given 133 = .ok (.putfield 462, 3) := by decide +kernel
theorem dX12_given_136 : decode cX12_given 136 = .ok (.aload_n 0, 1) := by decide +kernel
theorem dX12_given_137 : decode cX12_given 137 = .ok (.invokevirtual 473, 3) := by decide +kernel
theorem dX12_given_140 : decode cX12_given 140 = .ok (.iload_n 2, 1) := by decide +kernel
theorem dX12_given_141 : decode cX12_given 141 = .ok (.ifCond .lt 13, 3) := by decide +kernel
theorem dX12_given_144 : decode cX12_given 144 = .ok (.aload_n 0, 1) := by decide +kernel
theorem dX12_given_145 : decode cX12_given 145 = .ok (.iconst 2, 1) := by decide +kernel
theorem dX12_given_146 : decode cX12_given 146 = .ok (.iload_n 2, 1) := by decide +kernel
theorem dX12_given_147 : decode cX12_given 147 = .ok (.invokevirtual 465, 3) := by decide +kernel
theorem dX12_given_150 : decode cX12_given 150 = .ok (.pop, 1) := by decide +kernel
theorem dX12_given_151 : decode cX12_given 151 = .ok (.goto 10, 3) := by decide +kernel
theorem dX12_given_154 : decode cX12_given 154 = .ok (.aload_n 0, 1) := by decide +kernel
theorem dX12_given_155 : decode cX12_given 155 = .ok (.iload_n 1, 1) := by decide +kernel
theorem dX12_given_156 : decode cX12_given 156 = .ok (.iconst 1, 1) := by decide +kernel
theorem dX12_given_157 : decode cX12_given 157 = .ok (.iconst 4, 1) := by decide +kernel
theorem dX12_given_158 : decode cX12_given 158 = .ok (.invokevirtual 476, 3) := by decide +kernel
theorem dX12_given_161 : decode cX12_given 161 = .ok (.aload_n 0, 1) := by decide +kernel
theorem dX12_given_162 : decode cX12_given 162 = .ok (.bipush 59, 2) := by decide +kernel
theorem dX12_given_164 : decode cX12_given 164 = .ok (.invokevirtual 517, 3) := by decide +kernel
theorem dX12_given_167 : decode cX12_given 167 = .ok (.pop, 1) := by decide +kernel
theorem dX12_given_168 : decode cX12_given 168 = .ok (.return_, 1) := by decide +kernel
theorem dX12_code_0 : decode cX12_code 0 = .ok (.aload_n 0, 1) := by decide +kernel
theorem dX12_code_1 : decode cX12_code 1 = .ok (.getfield 439, 3) := by decide +kernel
theorem dX12_code_4 : decode cX12_code 4 = .ok (.istore_n 2, 1) := by decide +kernel
theorem dX12_code_5 : decode cX12_code 5 = .ok (.aload_n 0, 1) := by decide +kernel
theorem dX12_code_6 : decode cX12_code 6 = .ok (.iconst 0, 1) := by decide +kernel
theorem dX12_code_7 : decode cX12_code 7 = .ok (.putfield 459, 3) := by decide +kernel
theorem dX12_code_10 : decode cX12_code 10 = .ok (.aload_n 0, 1) := by decide +kernel
theorem dX12_code_11 : decode cX12_code 11 = .ok (.iload_n 1, 1) := by decide +kernel
theorem dX12_code_12 : decode cX12_code 12 = .ok (.putfield 444, 3) := by decide +kernel
theorem dX12_code_15 : decode cX12_code 15 = .ok (.aload_n 0, 1) := by decide +kernel
theorem dX12_code_16 : decode cX12_code 16 = .ok (.invokevirtual 511, 3) := by decide +kernel
theorem dX12_code_19 : decode cX12_code 19 = .ok (.aload_n 0, 1) := by decide +kernel
theorem dX12_code_20 : decode cX12_code 20 = .ok (.iconst 0, 1) := by decide +kernel
theorem dX12_code_21 : decode cX12_code 21 = .ok (.iconst 0, 1) := by decide +kernel
theorem dX12_code_22 : decode cX12_code 22 = .ok (.invokevirtual 465, 3) := by decide +kernel
theorem dX12_code_25 : decode cX12_code 25 = .ok (.pop, 1) := by decide +kernel
theorem dX12_code_26 : decode cX12_code 26 = .ok (.aload_n 0, 1) := by decide +kernel
theorem dX12_code_27 : decode cX12_code 27 = .ok (.bipush 8, 2) := by decide +kernel
theorem dX12_code_29 : decode cX12_code 29 = .ok (.iconst 0, 1) := by decide +kernel
theorem dX12_code_30 : decode cX12_code 30 = .ok (.invokevirtual 465, 3) := by decide +kernel
theorem dX12_code_33 : decode cX12_code 33 = .ok (.pop, 1) := by decide +kernel
theorem dX12_code_34 : decode cX12_code 34 = .ok (.aload_n 0, 1) := by decide +kernel
theorem dX12_code_35 : decode cX12_code 35 = .ok (.getfield 395, 3) := by decide +kernel
theorem dX12_code_38 : decode cX12_code 38 = .ok (.ifCond .ne 37, 3) := by decide +kernel
theorem dX12_code_41 : decode cX12_code 41 = .ok (.aload_n 0, 1) := by decide +kernel
theorem dX12_code_42 : decode cX12_code 42 = .ok (.aload_n 0, 1) := by decide +kernel
theorem dX12_code_43 : decode cX12_code 43 = .ok (.getfield 439, 3) := by decide +kernel
theorem dX12_code_46 : decode cX12_code 46 = .ok (.iload_n 2, 1) := by decide +kernel
theorem dX12_code_47 : decode cX12_code 47 = .ok (.isub, 1) := by decide +kernel
theorem dX12_code_48 : decode cX12_code 48 = .ok (.sipush 200, 3) := by decide +kernel
theorem dX12_code_51 : decode cX12_code 51 = .ok (.if_icmp .gt 17, 3) := by decide +kernel
theorem dX12_code_54 : decode cX12_code 54 = .ok (.aload_n 0, 1) := by decide +kernel
theorem dX12_code_55 : decode cX12_code 55 = .ok (.getfield 439, 3) := by decide +kernel
theorem dX12_code_58 : decode cX12_code 58 = .ok (.sipush 1000, 3) := by decide +kernel
theorem dX12_code_61 : decode cX12_code 61 = .ok (.if_icmp .gt 7, 3) := by decide +kernel
theorem dX12_code_64 : decode cX12_code 64 = .ok (.iconst 1, 1) := by decide +kernel
theorem dX12_code_65 : decode cX12_code 65 = .ok (.goto 4, 3) := by decide +kernel
theorem dX12_code_68 : decode cX12_code 68 = .ok (.iconst 0, 1) := by decide +kernel
theorem dX12_code_69 : decode cX12_code 69 = .ok (.bipush 6, 2) := by decide +kernel
theorem dX12_code_71 : decode cX12_code 71 = .ok (.invokevirtual 455, 3) := by decide +kernel
theorem dX12_code_74 : decode cX12_code 74 = .ok (.pop, 1) := by decide +kernel
theorem dX12_code_75 : decode cX12_code 75 = .ok (.aload_n 0, 1) := by decide +kernel
theorem dX12_code_76 : decode cX12_code 76 = .ok (.invokevirtual 436, 3) := by decide +kernel
theorem dX12_code_79 : decode cX12_code 79 = .ok (.iload_n 2, 1) := by decide +kernel
theorem dX12_code_80 : decode cX12_code 80 = .ok (.ireturn, 1) := by decide +kernel
theorem dX12_signed_0 : decode cX12_signed 0 = .ok (.aload_n 0, 1) := by decide +kernel
theorem dX12_signed_1 : decode cX12_signed 1 = .ok (.getfield 408, 3) := by decide +kernel
theorem dX12_signed_4 : decode cX12_signed 4 = .ok (.bipush 45, 2) := by decide +kernel
theorem dX12_signed_6 : decode cX12_signed 6 = .ok (.if_icmp .ne 7, 3) := by decide +kernel
theorem dX12_signed_9 : decode cX12_signed 9 = .ok (.iconst 1, 1) := by decide +kernel
theorem dX12_signed_10 : decode cX12_signed 10 = .ok (.goto 4, 3) := by decide +kernel
theorem dX12_signed_13 : decode cX12_signed 13 = .ok (.iconst 0, 1) := by decide +kernel
theorem dX12_signed_14 : decode cX12_signed 14 = .ok (.istore_n 1, 1) := by decide +kernel
theorem dX12_signed_15 : decode cX12_signed 15 = .ok (.iload_n 1, 1) := by decide +kernel
theorem dX12_signed_16 : decode cX12_signed 16 = .ok (.ifCond .eq 7, 3) := by decide +kernel
theorem dX12_signed_19 : decode cX12_signed 19 = .ok (.aload_n 0, 1) := by decide +kernel
theorem dX12_signed_20 : decode cX12_signed 20 = .ok (.invokevirtual 436, 3) := by decide +kernel
theorem dX12_signed_23 : decode cX12_signed 23 = .ok (.aload_n 0, 1) := by decide +kernel
theorem dX12_signed_24 : decode cX12_signed 24 = .ok (.getfield 395, 3) := by decide +kernel
theorem dX12_signed_27 : decode cX12_signed 27 = .ok (.ifCond .ne 47, 3) := by decide +kernel
theorem dX12_signed_30 : decode cX12_signed 30 = .ok (.aload_n 0, 1) := by decide +kernel
theorem dX12_signed_31 : decode cX12_signed 31 = .ok (.aload_n 0, 1) := by decide +kernel
theorem dX12_signed_32 : decode cX12_signed 32 = .ok (.getfield 408, 3) := by decide +kernel
theorem dX12_signed_35 : decode cX12_signed 35 = .ok (.iconst 2, 1) := by decide +kernel
theorem dX12_signed_36 : decode cX12_signed 36 = .ok (.if_icmp .ne 7, 3) := by decide +kernel
theorem dX12_signed_39 : decode cX12_signed 39 = .ok (.iconst 1, 1) := by decide +kernel
theorem dX12_signed_40 : decode cX12_signed 40 = .ok (.goto 4, 3) := by decide +kernel
theorem dX12_signed_43 : decode cX12_signed 43 = .ok (.iconst 0, 1) := by decide +kernel
theorem dX12_signed_44 : decode cX12_signed 44 = .ok (.invokevirtual 432, 3) := by decide +kernel
theorem dX12_signed_47 : decode cX12_signed 47 = .ok (.ifCond .eq 27, 3) := by decide +kernel
theorem dX12_signed_50 : decode cX12_signed 50 = .ok (.aload_n 0, 1) := by decide +kernel
theorem dX12_signed_51 : decode cX12_signed 51 = .ok (.iload_n 1, 1) := by decide +kernel
theorem dX12_signed_52 : decode cX12_signed 52 = .ok (.ifCond .eq 11, 3) := by decide +kernel
theorem dX12_signed_55 : decode cX12_signed 55 = .ok (.aload_n 0, 1) := by decide +kernel
theorem dX12_signed_56 : decode cX12_signed 56 = .ok (.getfield 422, 3) := by decide +kernel
theorem dX12_signed_59 : decode cX12_signed 59 = .ok (.ineg, 1) := by decide +kernel
theorem dX12_signed_60 : decode cX12_signed 60 = .ok (.goto 7, 3) := by decide +kernel
theorem dX12_signed_63 : decode cX12_signed 63 = .ok (.aload_n 0, 1) := by decide +kernel
theorem dX12_signed_64 : decode cX12_signed 64 = .ok (.getfield 422, 3) := by decide +kernel
theorem dX12_signed_67 : decode cX12_signed 67 = .ok (.putfield 536, 3) := by decide +kernel
theorem dX12_signed_70 : decode cX12_signed 70 = .ok (.aload_n 0, 1) := by decide +kernel
theorem dX12_signed_71 : decode cX12_signed 71 = .ok (.invokevirtual 436, 3) := by decide +kernel
theorem dX12_signed_74 : decode cX12_signed 74 = .ok (.return_, 1) := by decide +kernel
theorem dX12_isTold_0 : decode cX12_isTold 0 = .ok (.bipush 96, 2) := by decide +kernel
theorem dX12_isTold_2 : decode cX12_isTold 2 = .ok (.iload_n 1, 1) := by decide +kernel
theorem dX12_isTold_3 : decode cX12_isTold 3 = .ok (.imul, 1) := by decide +kernel
theorem dX12_isTold_4 : decode cX12_isTold 4 = .ok (.istore 4, 2) := by decide +kernel
theorem dX12_isTold_6 : decode cX12_isTold 6 = .ok (.iload 4, 2) := by decide +kernel
theorem dX12_isTold_8 : decode cX12_isTold 8 = .ok (.bipush 96, 2) := by decide +kernel
theorem dX12_isTold_10 : decode cX12_isTold 10 = .ok (.iload_n 1, 1) := by decide +kernel
theorem dX12_isTold_11 : decode cX12_isTold 11 = .ok (.imul, 1) := by decide +kernel
theorem dX12_isTold_12 : decode cX12_isTold 12 = .ok (.aload_n 0, 1) := by decide +kernel
theorem dX12_isTold_13 : decode cX12_isTold 13 = .ok (.getfield 36, 3) := by decide +kernel
theorem dX12_isTold_16 : decode cX12_isTold 16 = .ok (.iload_n 1, 1) := by decide +kernel
theorem dX12_isTold_17 : decode cX12_isTold 17 = .ok (.iaload, 1) := by decide +kernel
theorem dX12_isTold_18 : decode cX12_isTold 18 = .ok (.iadd, 1) := by decide +kernel
theorem dX12_isTold_19 : decode cX12_isTold 19 = .ok (.if_icmp .ge 37, 3) := by decide +kernel
theorem dX12_isTold_22 : decode cX12_isTold 22 = .ok (.aload_n 0, 1) := by decide +kernel
theorem dX12_isTold_23 : decode cX12_isTold 23 = .ok (.getfield 42, 3) := by decide +kernel
theorem dX12_isTold_26 : decode cX12_isTold 26 = .ok (.iload 4, 2) := by decide +kernel
theorem dX12_isTold_28 : decode cX12_isTold 28 = .ok (.iaload, 1) := by decide +kernel
theorem dX12_isTold_29 : decode cX12_isTold 29 = .ok (.aload_n 0, 1) := by decide +kernel
theorem dX12_isTold_30 : decode cX12_isTold 30 = .ok (.getfield 442, 3) := by decide +kernel
theorem dX12_isTold_33 : decode cX12_isTold 33 = .ok (.if_icmp .ne 17, 3) := by decide +kernel
theorem dX12_isTold_36 : decode cX12_isTold 36 = .ok (.aload_n 0, 1) := by decide +kernel
theorem dX12_isTold_37 : decode cX12_isTold 37 = .ok (.getfield 39, 3) := by decide +kernel
theorem dX12_isTold_40 : decode cX12_isTold 40 = .ok (.iload 4, 2) := by decide +kernel
theorem dX12_isTold_42 : decode cX12_isTold 42 = .ok (.laload, 1) := by decide +kernel
theorem dX12_isTold_43 : decode cX12_isTold 43 = .ok (.lload_n 2, 1) := by decide +kernel
theorem dX12_isTold_44 : decode cX12_isTold 44 = .ok (.lcmp, 1) := by decide +kernel
theorem dX12_isTold_45 : decode cX12_isTold 45 = .ok (.ifCond .ne 5, 3) := by decide +kernel
theorem dX12_isTold_48 : decode cX12_isTold 48 = .ok (.iconst 1, 1) := by decide +kernel
theorem dX12_isTold_49 : decode cX12_isTold 49 = .ok (.ireturn, 1) := by decide +kernel
theorem dX12_isTold_50 : decode cX12_isTold 50 = .ok (.iinc 4 1, 3) := by decide +kernel
theorem dX12_isTold_53 : decode cX12_isTold 53 = .ok (.goto (-47), 3) := by decide +kernel
theorem dX12_isTold_56 : decode cX12_isTold 56 = .ok (.bipush 16, 2) := by decide +kernel
theorem dX12_isTold_58 : decode cX12_isTold 58 = .ok (.iload_n 1, 1) := by decide +kernel
theorem dX12_isTold_59 : decode cX12_isTold 59 = .ok (.imul, 1) := by decide +kernel
theorem dX12_isTold_60 : decode cX12_isTold 60 = .ok (.istore 4, 2) := by decide +kernel
theorem dX12_isTold_62 : decode cX12_isTold 62 = .ok (.iload 4, 2) := by decide +kernel
theorem dX12_isTold_64 : decode cX12_isTold 64 = .ok (.bipush 16, 2) := by decide +kernel
theorem dX12_isTold_66 : decode cX12_isTold 66 = .ok (.iload_n 1, 1) := by decide +kernel
theorem dX12_isTold_67 : decode cX12_isTold 67 = .ok (.imul, 1) := by decide +kernel
theorem dX12_isTold_68 : decode cX12_isTold 68 = .ok (.aload_n 0, 1) := by decide +kernel
theorem dX12_isTold_69 : decode cX12_isTold 69 = .ok (.getfield 58, 3) := by decide +kernel
theorem dX12_isTold_72 : decode cX12_isTold 72 = .ok (.iload_n 1, 1) := by decide +kernel
theorem dX12_isTold_73 : decode cX12_isTold 73 = .ok (.iaload, 1) := by decide +kernel
theorem dX12_isTold_74 : decode cX12_isTold 74 = .ok (.iadd, 1) := by decide +kernel
theorem dX12_isTold_75 : decode cX12_isTold 75 = .ok (.if_icmp .ge 37, 3) := by decide +kernel
theorem dX12_isTold_78 : decode cX12_isTold 78 = .ok (.aload_n 0, 1) := by decide +kernel
theorem dX12_isTold_79 : decode cX12_isTold 79 = .ok (.getfield 64, 3) := by decide +kernel
theorem dX12_isTold_82 : decode cX12_isTold 82 = .ok (.iload 4, 2) := by decide +kernel
theorem dX12_isTold_84 : decode cX12_isTold 84 = .ok (.iaload, 1) := by decide +kernel
theorem dX12_isTold_85 : decode cX12_isTold 85 = .ok (.aload_n 0, 1) := by decide +kernel
theorem dX12_isTold_86 : decode cX12_isTold 86 = .ok (.getfield 442, 3) := by decide +kernel
theorem dX12_isTold_89 : decode cX12_isTold 89 = .ok (.if_icmp .ne 17, 3) := by decide +kernel
theorem dX12_isTold_92 : decode cX12_isTold 92 = .ok (.aload_n 0, 1) := by decide +kernel
theorem dX12_isTold_93 : decode cX12_isTold 93 = .ok (.getfield 61, 3) := by decide +kernel
theorem dX12_isTold_96 : decode cX12_isTold 96 = .ok (.iload 4, 2) := by decide +kernel
theorem dX12_isTold_98 : decode cX12_isTold 98 = .ok (.laload, 1) := by decide +kernel
theorem dX12_isTold_99 : decode cX12_isTold 99 = .ok (.lload_n 2, 1) := by decide +kernel
theorem dX12_isTold_100 : decode cX12_isTold 100 = .ok (.lcmp, 1) := by decide +kernel
theorem dX12_isTold_101 : decode cX12_isTold 101 = .ok (.ifCond .ne 5, 3) := by decide +kernel
theorem dX12_isTold_104 : decode cX12_isTold 104 = .ok (.iconst 1, 1) := by decide +kernel
theorem dX12_isTold_105 : decode cX12_isTold 105 = .ok (.ireturn, 1) := by decide +kernel
theorem dX12_isTold_106 : decode cX12_isTold 106 = .ok (.iinc 4 1, 3) := by decide +kernel
theorem dX12_isTold_109 : decode cX12_isTold 109 = .ok (.goto (-47), 3) := by decide +kernel
theorem dX12_isTold_112 : decode cX12_isTold 112 = .ok (.bipush 6, 2) := by decide +kernel
theorem dX12_isTold_114 : decode cX12_isTold 114 = .ok (.iload_n 1, 1) := by decide +kernel
theorem dX12_isTold_115 : decode cX12_isTold 115 = .ok (.imul, 1) := by decide +kernel
theorem dX12_isTold_116 : decode cX12_isTold 116 = .ok (.istore 4, 2) := by decide +kernel
theorem dX12_isTold_118 : decode cX12_isTold 118 = .ok (.iload 4, 2) := by decide +kernel
theorem dX12_isTold_120 : decode cX12_isTold 120 = .ok (.bipush 6, 2) := by decide +kernel
theorem dX12_isTold_122 : decode cX12_isTold 122 = .ok (.iload_n 1, 1) := by decide +kernel
theorem dX12_isTold_123 : decode cX12_isTold 123 = .ok (.imul, 1) := by decide +kernel
theorem dX12_isTold_124 : decode cX12_isTold 124 = .ok (.aload_n 0, 1) := by decide +kernel
theorem dX12_isTold_125 : decode cX12_isTold 125 = .ok (.getfield 82, 3) := by decide +kernel
theorem dX12_isTold_128 : decode cX12_isTold 128 = .ok (.iload_n 1, 1) := by decide +kernel
theorem dX12_isTold_129 : decode cX12_isTold 129 = .ok (.iaload, 1) := by decide +kernel
theorem dX12_isTold_130 : decode cX12_isTold 130 = .ok (.iadd, 1) := by decide +kernel
theorem dX12_isTold_131 : decode cX12_isTold 131 = .ok (.if_icmp .ge 37, 3) := by decide +kernel
theorem dX12_isTold_134 : decode cX12_isTold 134 = .ok (.aload_n 0, 1) := by decide +kernel
theorem dX12_isTold_135 : decode cX12_isTold 135 = .ok (.getfield 215, 3) := by decide +kernel
theorem dX12_isTold_138 : decode cX12_isTold 138 = .ok (.iload 4, 2) := by decide +kernel
theorem dX12_isTold_140 : decode cX12_isTold 140 = .ok (.iaload, 1) := by decide +kernel
theorem dX12_isTold_141 : decode cX12_isTold 141 = .ok (.aload_n 0, 1) := by decide +kernel
theorem dX12_isTold_142 : decode cX12_isTold 142 = .ok (.getfield 442, 3) := by decide +kernel
theorem dX12_isTold_145 : decode cX12_isTold 145 = .ok (.if_icmp .ne 17, 3) := by decide +kernel
theorem dX12_isTold_148 : decode cX12_isTold 148 = .ok (.aload_n 0, 1) := by decide +kernel
theorem dX12_isTold_149 : decode cX12_isTold 149 = .ok (.getfield 85, 3) := by decide +kernel
theorem dX12_isTold_152 : decode cX12_isTold 152 = .ok (.iload 4, 2) := by decide +kernel
theorem dX12_isTold_154 : decode cX12_isTold 154 = .ok (.laload, 1) := by decide +kernel
theorem dX12_isTold_155 : decode cX12_isTold 155 = .ok (.lload_n 2, 1) := by decide +kernel
theorem dX12_isTold_156 : decode cX12_isTold 156 = .ok (.lcmp, 1) := by decide +kernel
theorem dX12_isTold_157 : decode cX12_isTold 157 = .ok (.ifCond .ne 5, 3) := by decide +kernel
theorem dX12_isTold_160 : decode cX12_isTold 160 = .ok (.iconst 1, 1) := by decide +kernel
theorem dX12_isTold_161 : decode cX12_isTold 161 = .ok (.ireturn, 1) := by decide +kernel
theorem dX12_isTold_162 : decode cX12_isTold 162 = .ok (.iinc 4 1, 3) := by decide +kernel
theorem dX12_isTold_165 : decode cX12_isTold 165 = .ok (.goto (-47), 3) := by decide +kernel
theorem dX12_isTold_168 : decode cX12_isTold 168 = .ok (.iconst 0, 1) := by decide +kernel
theorem dX12_isTold_169 : decode cX12_isTold 169 = .ok (.ireturn, 1) := by decide +kernel
theorem dX12_member_0 : decode cX12_member 0 = .ok (.aload_n 0, 1) := by decide +kernel
theorem dX12_member_1 : decode cX12_member 1 = .ok (.getfield 408, 3) := by decide +kernel
theorem dX12_member_4 : decode cX12_member 4 = .ok (.sipush 402, 3) := by decide +kernel
theorem dX12_member_7 : decode cX12_member 7 = .ok (.if_icmp .ne 7, 3) := by decide +kernel
theorem dX12_member_10 : decode cX12_member 10 = .ok (.iconst 1, 1) := by decide +kernel
theorem dX12_member_11 : decode cX12_member 11 = .ok (.goto 4, 3) := by decide +kernel
theorem dX12_member_14 : decode cX12_member 14 = .ok (.iconst 0, 1) := by decide +kernel
theorem dX12_member_15 : decode cX12_member 15 = .ok (.istore_n 2, 1) := by decide +kernel
theorem dX12_member_16 : decode cX12_member 16 = .ok (.iload_n 2, 1) := by decide +kernel
theorem dX12_member_17 : decode cX12_member 17 = .ok (.ifCond .eq 7, 3) := by decide +kernel
theorem dX12_member_20 : decode cX12_member 20 = .ok (.aload_n 0, 1) := by decide +kernel
theorem dX12_member_21 : decode cX12_member 21 = .ok (.invokevirtual 436, 3) := by decide +kernel
theorem dX12_member_24 : decode cX12_member 24 = .ok (.aload_n 0, 1) := by decide +kernel
theorem dX12_member_25 : decode cX12_member 25 = .ok (.getfield 395, 3) := by decide +kernel
theorem dX12_member_28 : decode cX12_member 28 = .ok (.ifCond .eq 4, 3) := by decide +kernel
theorem dX12_member_31 : decode cX12_member 31 = .ok (.return_, 1) := by decide +kernel
theorem dX12_member_32 : decode cX12_member 32 = .ok (.aload_n 0, 1) := by decide +kernel
theorem dX12_member_33 : decode cX12_member 33 = .ok (.getfield 408, 3) := by decide +kernel
theorem dX12_member_36 : decode cX12_member 36 = .ok (.sipush 403, 3) := by decide +kernel
theorem dX12_member_39 : decode cX12_member 39 = .ok (.sipush 407, 3) := by decide +kernel
theorem dX12_member_42 : decode cX12_member 42 = .ok (.invokestatic 381, 3) := by decide +kernel
theorem dX12_member_45 : decode cX12_member 45 = .ok (.ifCond .eq 12, 3) := by decide +kernel
theorem dX12_member_48 : decode cX12_member 48 = .ok (.aload_n 0, 1) := by decide +kernel
theorem dX12_member_49 : decode cX12_member 49 = .ok (.iload_n 1, 1) := by decide +kernel
theorem dX12_member_50 : decode cX12_member 50 = .ok (.iload_n 2, 1) := by decide +kernel
theorem dX12_member_51 : decode cX12_member 51 = .ok (.invokevirtual 539, 3) := by decide +kernel
theorem dX12_member_54 : decode cX12_member 54 = .ok (.goto 286, 3) := by decide +kernel
theorem dX12_member_57 : decode cX12_member 57 = .ok (.aload_n 0, 1) := by decide +kernel
theorem dX12_member_58 : decode cX12_member 58 = .ok (.iload_n 2, 1) := by decide +kernel
theorem dX12_member_59 : decode cX12_member 59 = .ok (.ifCond .ne 33, 3) := by decide +kernel
theorem dX12_member_62 : decode cX12_member 62 = .ok (.aload_n 0, 1) := by decide +kernel
theorem dX12_member_63 : decode cX12_member 63 = .ok (.getfield 408, 3) := by decide +kernel
theorem dX12_member_66 : decode cX12_member 66 = .ok (.sipush 408, 3) := by decide +kernel
theorem dX12_member_69 : decode cX12_member 69 = .ok (.sipush 411, 3) := by decide +kernel
theorem dX12_member_72 : decode cX12_member 72 = .ok (.invokestatic 381, 3) := by decide +kernel
theorem dX12_member_75 : decode cX12_member 75 = .ok (.ifCond .ne 13, 3) := by decide +kernel
theorem dX12_member_78 : decode cX12_member 78 = .ok (.aload_n 0, 1) := by decide +kernel
theorem dX12_member_79 : decode cX12_member 79 = .ok (.getfield 408, 3) := by decide +kernel
theorem dX12_member_82 : decode cX12_member 82 = .ok (.sipush 415, 3) := by decide +kernel
theorem dX12_member_85 : decode cX12_member 85 = .ok (.if_icmp .ne 7, 3) := by decide +kernel
theorem dX12_member_88 : decode cX12_member 88 = .ok (.iconst 1, 1) := by decide +kernel
theorem dX12_member_89 : decode cX12_member 89 = .ok (.goto 4, 3) := by decide +kernel
theorem dX12_member_92 : decode cX12_member 92 = .ok (.iconst 0, 1) := by decide +kernel
theorem dX12_member_93 : decode cX12_member 93 = .ok (.invokevirtual 432, 3) := by decide +kernel
theorem dX12_member_96 : decode cX12_member 96 = .ok (.ifCond .eq 244, 3) := by decide +kernel
theorem dX12_member_99 : decode cX12_member 99 = .ok (.aload_n 0, 1) := by decide +kernel
theorem dX12_member_100 : decode cX12_member 100 = .ok (.getfield 408, 3) := by decide +kernel
theorem dX12_member_103 : decode cX12_member 103 = .ok (.istore_n 3, 1) := by decide +kernel
theorem dX12_member_104 : decode cX12_member 104 = .ok (.bipush 8, 2) := by decide +kernel
theorem dX12_member_106 : decode cX12_member 106 = .ok (.iload_n 1, 1) := by decide +kernel
theorem dX12_member_107 : decode cX12_member 107 = .ok (.imul, 1) := by decide +kernel
theorem dX12_member_108 : decode cX12_member 108 = .ok (.aload_n 0, 1) := by decide +kernel
theorem dX12_member_109 : decode cX12_member 109 = .ok (.getfield 442, 3) := by decide +kernel
theorem dX12_member_112 : decode cX12_member 112 = .ok (.iadd, 1) := by decide +kernel
theorem dX12_member_113 : decode cX12_member 113 = .ok (.istore 4, 2) := by decide +kernel
theorem dX12_member_115 : decode cX12_member 115 = .ok (.aload_n 0, 1) := by decide +kernel
theorem dX12_member_116 : decode cX12_member 116 = .ok (.iconst 0, 1) := by decide +kernel
theorem dX12_member_117 : decode cX12_member 117 = .ok (.putfield 448, 3) := by decide +kernel
theorem dX12_member_120 : decode cX12_member 120 = .ok (.iload_n 3, 1) := by decide +kernel
theorem dX12_member_121 : decode cX12_member 121 = .ok (.sipush 408, 3) := by decide +kernel
theorem dX12_member_124 : decode cX12_member 124 = .ok (.if_icmp .ne 52, 3) := by decide +kernel
theorem dX12_member_127 : decode cX12_member 127 = .ok (.aload_n 0, 1) := by decide +kernel
theorem dX12_member_128 : decode cX12_member 128 = .ok (.aload_n 0, 1) := by decide +kernel
theorem dX12_member_129 : decode cX12_member 129 = .ok (.getfield 21, 3) := by decide +kernel
theorem dX12_member_132 : decode cX12_member 132 = .ok (.iload 4, 2) := by decide +kernel
theorem dX12_member_134 : decode cX12_member 134 = .ok (.iaload, 1) := by decide +kernel
theorem dX12_member_135 : decode cX12_member 135 = .ok (.ifCond .ge 7, 3) := by decide +kernel
theorem dX12_member_138 : decode cX12_member 138 = .ok (.iconst 1, 1) := by decide +kernel
theorem dX12_member_139 : decode cX12_member 139 = .ok (.goto 4, 3) := by decide +kernel
theorem dX12_member_142 : decode cX12_member 142 = .ok (.iconst 0, 1) := by decide +kernel
theorem dX12_member_143 : decode cX12_member 143 = .ok (.bipush 6, 2) := by decide +kernel
theorem dX12_member_145 : decode cX12_member 145 = .ok (.invokevirtual 455, 3) := by decide +kernel
theorem dX12_member_148 : decode cX12_member 148 = .ok (.ifCond .eq 192, 3) := by decide +kernel
theorem dX12_member_151 : decode cX12_member 151 = .ok (.aload_n 0, 1) := by decide +kernel
theorem dX12_member_152 : decode cX12_member 152 = .ok (.invokevirtual 436, 3) := by decide +kernel
theorem dX12_member_155 : decode cX12_member 155 = .ok (.aload_n 0, 1) := by decide +kernel
theorem dX12_member_156 : decode cX12_member 156 = .ok (.getfield 21, 3) := by decide +kernel
theorem dX12_member_159 : decode cX12_member 159 = .ok (.iload 4, 2) := by decide +kernel
theorem dX12_member_161 : decode cX12_member 161 = .ok (.aload_n 0, 1) := by decide +kernel
theorem dX12_member_162 : decode cX12_member 162 = .ok (.getfield 439, 3) := by decide +kernel
theorem dX12_member_165 : decode cX12_member 165 = .ok (.iastore, 1) := by decide +kernel
theorem dX12_member_166 : decode cX12_member 166 = .ok (.aload_n 0, 1) := by decide +kernel
theorem dX12_member_167 : decode cX12_member 167 = .ok (.iconst 1, 1) := by decide +kernel
theorem dX12_member_168 : decode cX12_member 168 = .ok (.invokevirtual 543, 3) := by decide +kernel
theorem dX12_member_171 : decode cX12_member 171 = .ok (.istore 5, 2) := by decide +kernel
theorem dX12_member_173 : decode cX12_member 173 = .ok (.goto 167, 3) := by decide +kernel
theorem dX12_member_176 : decode cX12_member 176 = .ok (.iload_n 3, 1) := by decide +kernel
theorem dX12_member_177 : decode cX12_member 177 = .ok (.sipush 409, 3) := by decide +kernel
theorem dX12_member_180 : decode cX12_member 180 = .ok (.if_icmp .ne 68, 3) := by decide +kernel
theorem dX12_member_183 : decode cX12_member 183 = .ok (.aload_n 0, 1) := by decide +kernel
theorem dX12_member_184 : decode cX12_member 184 = .ok (.aload_n 0, 1) := by decide +kernel
theorem dX12_member_185 : decode cX12_member 185 = .ok (.getfield 24, 3) := by decide +kernel
theorem dX12_member_188 : decode cX12_member 188 = .ok (.iload 4, 2) := by decide +kernel
theorem dX12_member_190 : decode cX12_member 190 = .ok (.iaload, 1) := by decide +kernel
theorem dX12_member_191 : decode cX12_member 191 = .ok (.iconst 3, 1) := by decide +kernel
theorem dX12_member_192 : decode cX12_member 192 = .ok (.if_icmp .ge 7, 3) := by decide +kernel
theorem dX12_member_195 : decode cX12_member 195 = .ok (.iconst 1, 1) := by decide +kernel
theorem dX12_member_196 : decode cX12_member 196 = .ok (.goto 4, 3) := by decide +kernel
theorem dX12_member_199 : decode cX12_member 199 = .ok (.iconst 0, 1) := by decide +kernel
theorem dX12_member_200 : decode cX12_member 200 = .ok (.bipush 6, 2) := by decide +kernel
theorem dX12_member_202 : decode cX12_member 202 = .ok (.invokevirtual 455, 3) := by decide +kernel
theorem dX12_member_205 : decode cX12_member 205 = .ok (.ifCond .eq 135, 3) := by decide +kernel
theorem dX12_member_208 : decode cX12_member 208 = .ok (.aload_n 0, 1) := by decide +kernel
theorem dX12_member_209 : decode cX12_member 209 = .ok (.invokevirtual 436, 3) := by decide +kernel
theorem dX12_member_212 : decode cX12_member 212 = .ok (.aload_n 0, 1) := by decide +kernel
theorem dX12_member_213 : decode cX12_member 213 = .ok (.getfield 27, 3) := by decide +kernel
theorem dX12_member_216 : decode cX12_member 216 = .ok (.iconst 3, 1) := by decide +kernel
theorem dX12_member_217 : decode cX12_member 217 = .ok (.iload 4, 2) := by decide +kernel
theorem dX12_member_219 : decode cX12_member 219 = .ok (.imul, 1) := by decide +kernel
theorem dX12_member_220 : decode cX12_member 220 = .ok (.aload_n 0, 1) := by decide +kernel
theorem dX12_member_221 : decode cX12_member 221 = .ok (.getfield 24, 3) := by decide +kernel
theorem dX12_member_224 : decode cX12_member 224 = .ok (.iload 4, 2) := by decide +kernel
theorem dX12_member_226 : decode cX12_member 226 = .ok (.iaload, 1) := by decide +kernel
theorem dX12_member_227 : decode cX12_member 227 = .ok (.iadd, 1) := by decide +kernel
theorem dX12_member_228 : decode cX12_member 228 = .ok (.aload_n 0, 1) := by decide +kernel
theorem dX12_member_229 : decode cX12_member 229 = .ok (.iconst 0, 1) := by decide +kernel
theorem dX12_member_230 : decode cX12_member 230 = .ok (.invokevirtual 543, 3) := by decide +kernel
theorem dX12_member_233 : decode cX12_member 233 = .ok (.iastore, 1) := by decide +kernel
theorem dX12_member_234 : decode cX12_member 234 = .ok (.aload_n 0, 1) := by decide +kernel
theorem dX12_member_235 : decode cX12_member 235 = .ok (.getfield 24, 3) := by decide +kernel
theorem dX12_member_238 : decode cX12_member 238 = .ok (.iload 4, 2) := by decide +kernel
theorem dX12_member_240 : decode cX12_member 240 = .ok (.dup2, 1) := by decide +kernel
theorem dX12_member_241 : decode cX12_member 241 = .ok (.iaload, 1) := by decide +kernel
theorem dX12_member_242 : decode cX12_member 242 = .ok (.iconst 1, 1) := by decide +kernel
theorem dX12_member_243 : decode cX12_member 243 = .ok (.iadd, 1) := by decide +kernel
theorem dX12_member_244 : decode cX12_member 244 = .ok (.iastore, 1) := by decide +kernel
theorem dX12_member_245 : decode cX12_member 245 = .ok (.goto 95, 3) := by decide +kernel
theorem dX12_member_248 : decode cX12_member 248 = .ok (.iload_n 3, 1) := by decide +kernel
theorem dX12_member_249 : decode cX12_member 249 = .ok (.sipush 410, 3) := by decide +kernel
theorem dX12_member_252 : decode cX12_member 252 = .ok (.if_icmp .ne 68, 3) := by decide +kernel
theorem dX12_member_255 : decode cX12_member 255 = .ok (.aload_n 0, 1) := by decide +kernel
theorem dX12_member_256 : decode cX12_member 256 = .ok (.aload_n 0, 1) := by decide +kernel
theorem dX12_member_257 : decode cX12_member 257 = .ok (.getfield 30, 3) := by decide +kernel
theorem dX12_member_260 : decode cX12_member 260 = .ok (.iload 4, 2) := by decide +kernel
theorem dX12_member_262 : decode cX12_member 262 = .ok (.iaload, 1) := by decide +kernel
theorem dX12_member_263 : decode cX12_member 263 = .ok (.iconst 3, 1) := by decide +kernel
theorem dX12_member_264 : decode cX12_member 264 = .ok (.if_icmp .ge 7, 3) := by decide +kernel
theorem dX12_member_267 : decode cX12_member 267 = .ok (.iconst 1, 1) := by decide +kernel
theorem dX12_member_268 : decode cX12_member 268 = .ok (.goto 4, 3) := by decide +kernel
theorem dX12_member_271 : decode cX12_member 271 = .ok (.iconst 0, 1) := by decide +kernel
theorem dX12_member_272 : decode cX12_member 272 = .ok (.bipush 6, 2) := by decide +kernel
theorem dX12_member_274 : decode cX12_member 274 = .ok (.invokevirtual 455, 3) := by decide +kernel
theorem dX12_member_277 : decode cX12_member 277 = .ok (.ifCond .eq 63, 3) := by decide +kernel
theorem dX12_member_280 : decode cX12_member 280 = .ok (.aload_n 0, 1) := by decide +kernel
theorem dX12_member_281 : decode cX12_member 281 = .ok (.invokevirtual 436, 3) := by decide +kernel
theorem dX12_member_284 : decode cX12_member 284 = .ok (.aload_n 0, 1) := by decide +kernel
theorem dX12_member_285 : decode cX12_member 285 = .ok (.getfield 33, 3) := by decide +kernel
theorem dX12_member_288 : decode cX12_member 288 = .ok (.iconst 3, 1) := by decide +kernel
theorem dX12_member_289 : decode cX12_member 289 = .ok (.iload 4, 2) := by decide +kernel
theorem dX12_member_291 : decode cX12_member 291 = .ok (.imul, 1) := by decide +kernel
theorem dX12_member_292 : decode cX12_member 292 = .ok (.aload_n 0, 1) := by decide +kernel
theorem dX12_member_293 : decode cX12_member 293 = .ok (.getfield 30, 3) := by decide +kernel
theorem dX12_member_296 : decode cX12_member 296 = .ok (.iload 4, 2) := by decide +kernel
theorem dX12_member_298 : decode cX12_member 298 = .ok (.iaload, 1) := by decide +kernel
theorem dX12_member_299 : decode cX12_member 299 = .ok (.iadd, 1) := by decide +kernel
theorem dX12_member_300 : decode cX12_member 300 = .ok (.aload_n 0, 1) := by decide +kernel
theorem dX12_member_301 : decode cX12_member 301 = .ok (.iconst 0, 1) := by decide +kernel
theorem dX12_member_302 : decode cX12_member 302 = .ok (.invokevirtual 543, 3) := by decide +kernel
theorem dX12_member_305 : decode cX12_member 305 = .ok (.iastore, 1) := by decide +kernel
theorem dX12_member_306 : decode cX12_member 306 = .ok (.aload_n 0, 1) := by decide +kernel
theorem dX12_member_307 : decode cX12_member 307 = .ok (.getfield 30, 3) := by decide +kernel
theorem dX12_member_310 : decode cX12_member 310 = .ok (.iload 4, 2) := by decide +kernel
theorem dX12_member_312 : decode cX12_member 312 = .ok (.dup2, 1) := by decide +kernel
theorem dX12_member_313 : decode cX12_member 313 = .ok (.iaload, 1) := by decide +kernel
theorem dX12_member_314 : decode cX12_member 314 = .ok (.iconst 1, 1) := by decide +kernel
theorem dX12_member_315 : decode cX12_member 315 = .ok (.iadd, 1) := by decide +kernel
theorem dX12_member_316 : decode cX12_member 316 = .ok (.iastore, 1) := by decide +kernel
theorem dX12_member_317 : decode cX12_member 317 = .ok (.goto 23, 3) := by decide +kernel
theorem dX12_member_320 : decode cX12_member 320 = .ok (.iload_n 3, 1) := by decide +kernel
theorem dX12_member_321 : decode cX12_member 321 = .ok (.sipush 411, 3) := by decide +kernel
theorem dX12_member_324 : decode cX12_member 324 = .ok (.if_icmp .ne 11, 3) := by decide +kernel
theorem dX12_member_327 : decode cX12_member 327 = .ok (.aload_n 0, 1) := by decide +kernel
theorem dX12_member_328 : decode cX12_member 328 = .ok (.iload_n 1, 1) := by decide +kernel
theorem dX12_member_329 : decode cX12_member 329 = .ok (.invokevirtual 547, 3) := by decide +kernel
theorem dX12_member_332 : decode cX12_member 332 = .ok (.goto 8, 3) := by decide +kernel
theorem dX12_member_335 : decode cX12_member 335 = .ok (.aload_n 0, 1) := by decide +kernel
theorem dX12_member_336 : decode cX12_member 336 = .ok (.iload_n 1, 1) := by decide +kernel
theorem dX12_member_337 : decode cX12_member 337 = .ok (.invokevirtual 549, 3) := by decide +kernel
theorem dX12_member_340 : decode cX12_member 340 = .ok (.return_, 1) := by decide +kernel
theorem dX12_thing_0 : decode cX12_thing 0 = .ok (.aload_n 0, 1) := by decide +kernel
theorem dX12_thing_1 : decode cX12_thing 1 = .ok (.getfield 408, 3) := by decide +kernel
theorem dX12_thing_4 : decode cX12_thing 4 = .ok (.sipush 403, 3) := by decide +kernel
theorem dX12_thing_7 : decode cX12_thing 7 = .ok (.isub, 1) := by decide +kernel
theorem dX12_thing_8 : decode cX12_thing 8 = .ok (.istore_n 3, 1) := by decide +kernel
theorem dX12_thing_9 : decode cX12_thing 9 = .ok (.aload_n 0, 1) := by decide +kernel
theorem dX12_thing_10 : decode cX12_thing 10 = .ok (.invokevirtual 436, 3) := by decide +kernel
theorem dX12_thing_13 : decode cX12_thing 13 = .ok (.aload_n 0, 1) := by decide +kernel
theorem dX12_thing_14 : decode cX12_thing 14 = .ok (.getfield 395, 3) := by decide +kernel
theorem dX12_thing_17 : decode cX12_thing 17 = .ok (.ifCond .ne 71, 3) := by decide +kernel
theorem dX12_thing_20 : decode cX12_thing 20 = .ok (.aload_n 0, 1) := by decide +kernel
theorem dX12_thing_21 : decode cX12_thing 21 = .ok (.aload_n 0, 1) := by decide +kernel
theorem dX12_thing_22 : decode cX12_thing 22 = .ok (.getfield 408, 3) := by decide +kernel
theorem dX12_thing_25 : decode cX12_thing 25 = .ok (.iconst 1, 1) := by decide +kernel
theorem dX12_thing_26 : decode cX12_thing 26 = .ok (.if_icmp .ne 7, 3) := by decide +kernel
theorem dX12_thing_29 : decode cX12_thing 29 = .ok (.iconst 1, 1) := by decide +kernel
theorem dX12_thing_30 : decode cX12_thing 30 = .ok (.goto 4, 3) := by decide +kernel
theorem dX12_thing_33 : decode cX12_thing 33 = .ok (.iconst 0, 1) := by decide +kernel
theorem dX12_thing_34 : decode cX12_thing 34 = .ok (.invokevirtual 432, 3) := by decide +kernel
theorem dX12_thing_37 : decode cX12_thing 37 = .ok (.ifCond .eq 51, 3) := by decide +kernel
theorem dX12_thing_40 : decode cX12_thing 40 = .ok (.aload_n 0, 1) := by decide +kernel
theorem dX12_thing_41 : decode cX12_thing 41 = .ok (.aload_n 0, 1) := by decide +kernel
theorem dX12_thing_42 : decode cX12_thing 42 = .ok (.iload_n 1, 1) := by decide +kernel
theorem dX12_thing_43 : decode cX12_thing 43 = .ok (.aload_n 0, 1) := by decide +kernel
theorem dX12_thing_44 : decode cX12_thing 44 = .ok (.getfield 415, 3) := by decide +kernel
theorem dX12_thing_47 : decode cX12_thing 47 = .ok (.invokevirtual 551, 3) := by decide +kernel
theorem dX12_thing_50 : decode cX12_thing 50 = .ok (.ifCond .ne 7, 3) := by decide +kernel
theorem dX12_thing_53 : decode cX12_thing 53 = .ok (.iconst 1, 1) := by decide +kernel
theorem dX12_thing_54 : decode cX12_thing 54 = .ok (.goto 4, 3) := by decide +kernel
theorem dX12_thing_57 : decode cX12_thing 57 = .ok (.iconst 0, 1) := by decide +kernel
theorem dX12_thing_58 : decode cX12_thing 58 = .ok (.iconst 3, 1) := by decide +kernel
theorem dX12_thing_59 : decode cX12_thing 59 = .ok (.invokevirtual 455, 3) := by decide +kernel
theorem dX12_thing_62 : decode cX12_thing 62 = .ok (.ifCond .eq 26, 3) := by decide +kernel
theorem dX12_thing_65 : decode cX12_thing 65 = .ok (.aload_n 0, 1) := by decide +kernel
theorem dX12_thing_66 : decode cX12_thing 66 = .ok (.aload_n 0, 1) := by decide +kernel
theorem dX12_thing_67 : decode cX12_thing 67 = .ok (.getfield 555, 3) := by decide +kernel
theorem dX12_thing_70 : decode cX12_thing 70 = .ok (.bipush 12, 2) := by decide +kernel
theorem dX12_thing_72 : decode cX12_thing 72 = .ok (.if_icmp .ge 7, 3) := by decide +kernel
theorem dX12_thing_75 : decode cX12_thing 75 = .ok (.iconst 1, 1) := by decide +kernel
theorem dX12_thing_76 : decode cX12_thing 76 = .ok (.goto 4, 3) := by decide +kernel
theorem dX12_thing_79 : decode cX12_thing 79 = .ok (.iconst 0, 1) := by decide +kernel
theorem dX12_thing_80 : decode cX12_thing 80 = .ok (.bipush 6, 2) := by decide +kernel
theorem dX12_thing_82 : decode cX12_thing 82 = .ok (.invokevirtual 455, 3) := by decide +kernel
theorem dX12_thing_85 : decode cX12_thing 85 = .ok (.ifCond .ne 4, 3) := by decide +kernel
theorem dX12_thing_88 : decode cX12_thing 88 = .ok (.return_, 1) := by decide +kernel
theorem dX12_thing_89 : decode cX12_thing 89 = .ok (.bipush 96, 2) := by decide +kernel
theorem dX12_thing_91 : decode cX12_thing 91 = .ok (.iload_n 1, 1) := by decide +kernel
theorem dX12_thing_92 : decode cX12_thing 92 = .ok (.imul, 1) := by decide +kernel
theorem dX12_thing_93 : decode cX12_thing 93 = .ok (.aload_n 0, 1) := by decide +kernel
theorem dX12_thing_94 : decode cX12_thing 94 = .ok (.getfield 36, 3) := by decide +kernel
theorem dX12_thing_97 : decode cX12_thing 97 = .ok (.iload_n 1, 1) := by decide +kernel
theorem dX12_thing_98 : decode cX12_thing 98 = .ok (.iaload, 1) := by decide +kernel
theorem dX12_thing_99 : decode cX12_thing 99 = .ok (.iadd, 1) := by decide +kernel
theorem dX12_thing_100 : decode cX12_thing 100 = .ok (.istore 4, 2) := by decide +kernel
theorem dX12_thing_102 : decode cX12_thing 102 = .ok (.aload_n 0, 1) := by decide +kernel
theorem dX12_thing_103 : decode cX12_thing 103 = .ok (.getfield 36, 3) := by decide +kernel
theorem dX12_thing_106 : decode cX12_thing 106 = .ok (.iload_n 1, 1) := by decide +kernel
theorem dX12_thing_107 : decode cX12_thing 107 = .ok (.dup2, 1) := by decide +kernel
theorem dX12_thing_108 : decode cX12_thing 108 = .ok (.iaload, 1) := by decide +kernel
theorem dX12_thing_109 : decode cX12_thing 109 = .ok (.iconst 1, 1) := by decide +kernel
theorem dX12_thing_110 : decode cX12_thing 110 = .ok (.iadd, 1) := by decide +kernel
theorem dX12_thing_111 : decode cX12_thing 111 = .ok (.iastore, 1) := by decide +kernel
theorem dX12_thing_112 : decode cX12_thing 112 = .ok (.aload_n 0, 1) := by decide +kernel
theorem dX12_thing_113 : decode cX12_thing 113 = .ok (.dup, 1) := by decide +kernel
theorem dX12_thing_114 : decode cX12_thing 114 = .ok (.getfield 555, 3) := by decide +kernel
theorem dX12_thing_117 : decode cX12_thing 117 = .ok (.iconst 1, 1) := by decide +kernel
theorem dX12_thing_118 : decode cX12_thing 118 = .ok (.iadd, 1) := by decide +kernel
theorem dX12_thing_119 : decode cX12_thing 119 = .ok (.putfield 555, 3) := by decide +kernel
theorem dX12_thing_122 : decode cX12_thing 122 = .ok (.aload_n 0, 1) := by decide +kernel
theorem dX12_thing_123 : decode cX12_thing 123 = .ok (.getfield 39, 3) := by decide +kernel
theorem dX12_thing_126 : decode cX12_thing 126 = .ok (.iload 4, 2) := by decide +kernel
theorem dX12_thing_128 : decode cX12_thing 128 = .ok (.aload_n 0, 1) := by decide +kernel
theorem dX12_thing_129 : decode cX12_thing 129 = .ok (.getfield 415, 3) := by decide +kernel
theorem dX12_thing_132 : decode cX12_thing 132 = .ok (.lastore, 1) := by decide +kernel
theorem dX12_thing_133 : decode cX12_thing 133 = .ok (.aload_n 0, 1) := by decide +kernel
theorem dX12_thing_134 : decode cX12_thing 134 = .ok (.getfield 42, 3) := by decide +kernel
theorem dX12_thing_137 : decode cX12_thing 137 = .ok (.iload 4, 2) := by decide +kernel
theorem dX12_thing_139 : decode cX12_thing 139 = .ok (.aload_n 0, 1) := by decide +kernel
theorem dX12_thing_140 : decode cX12_thing 140 = .ok (.getfield 442, 3) := by decide +kernel
theorem dX12_thing_143 : decode cX12_thing 143 = .ok (.iastore, 1) := by decide +kernel
theorem dX12_thing_144 : decode cX12_thing 144 = .ok (.aload_n 0, 1) := by decide +kernel
theorem dX12_thing_145 : decode cX12_thing 145 = .ok (.getfield 45, 3) := by decide +kernel
theorem dX12_thing_148 : decode cX12_thing 148 = .ok (.iload 4, 2) := by decide +kernel
theorem dX12_thing_150 : decode cX12_thing 150 = .ok (.iload_n 3, 1) := by decide +kernel
theorem dX12_thing_151 : decode cX12_thing 151 = .ok (.iastore, 1) := by decide +kernel
theorem dX12_thing_152 : decode cX12_thing 152 = .ok (.aload_n 0, 1) := by decide +kernel
theorem dX12_thing_153 : decode cX12_thing 153 = .ok (.getfield 48, 3) := by decide +kernel
theorem dX12_thing_156 : decode cX12_thing 156 = .ok (.iload 4, 2) := by decide +kernel
theorem dX12_thing_158 : decode cX12_thing 158 = .ok (.iload_n 2, 1) := by decide +kernel
theorem dX12_thing_159 : decode cX12_thing 159 = .ok (.bastore, 1) := by decide +kernel
theorem dX12_thing_160 : decode cX12_thing 160 = .ok (.aload_n 0, 1) := by decide +kernel
theorem dX12_thing_161 : decode cX12_thing 161 = .ok (.getfield 55, 3) := by decide +kernel
theorem dX12_thing_164 : decode cX12_thing 164 = .ok (.iload 4, 2) := by decide +kernel
theorem dX12_thing_166 : decode cX12_thing 166 = .ok (.bipush (-2), 2) := by decide +kernel
theorem dX12_thing_168 : decode cX12_thing 168 = .ok (.iastore, 1) := by decide +kernel
theorem dX12_thing_169 : decode cX12_thing 169 = .ok (.aload_n 0, 1) := by decide +kernel
theorem dX12_thing_170 : decode cX12_thing 170 = .ok (.invokevirtual 436, 3) := by decide +kernel
theorem dX12_thing_173 : decode cX12_thing 173 = .ok (.iload_n 3, 1) := by decide +kernel
theorem dX12_thing_174 : decode cX12_thing 174 = .ok (.iconst 3, 1) := by decide +kernel
theorem dX12_thing_175 : decode cX12_thing 175 = .ok (.if_icmp .ge 35, 3) := by decide +kernel
theorem dX12_thing_178 : decode cX12_thing 178 = .ok (.aload_n 0, 1) := by decide +kernel
theorem dX12_thing_179 : decode cX12_thing 179 = .ok (.bipush 61, 2) := by decide +kernel
theorem dX12_thing_181 : decode cX12_thing 181 = .ok (.invokevirtual 517, 3) := by decide +kernel
theorem dX12_thing_184 : decode cX12_thing 184 = .ok (.pop, 1) := by decide +kernel
theorem dX12_thing_185 : decode cX12_thing 185 = .ok (.aload_n 0, 1) := by decide +kernel
theorem dX12_thing_186 : decode cX12_thing 186 = .ok (.invokevirtual 558, 3) := by decide +kernel
theorem dX12_thing_189 : decode cX12_thing 189 = .ok (.aload_n 0, 1) := by decide +kernel
theorem dX12_thing_190 : decode cX12_thing 190 = .ok (.getfield 52, 3) := by decide +kernel
theorem dX12_thing_193 : decode cX12_thing 193 = .ok (.iload 4, 2) := by decide +kernel
theorem dX12_thing_195 : decode cX12_thing 195 = .ok (.aload_n 0, 1) := by decide +kernel
theorem dX12_thing_196 : decode cX12_thing 196 = .ok (.getfield 536, 3) := by decide +kernel
theorem dX12_thing_199 : decode cX12_thing 199 = .ok (.iastore, 1) := by decide +kernel
theorem dX12_thing_200 : decode cX12_thing 200 = .ok (.aload_n 0, 1) := by decide +kernel
theorem dX12_thing_201 : decode cX12_thing 201 = .ok (.bipush 59, 2) := by decide +kernel
theorem dX12_thing_203 : decode cX12_thing 203 = .ok (.invokevirtual 517, 3) := by decide +kernel
theorem dX12_thing_206 : decode cX12_thing 206 = .ok (.pop, 1) := by decide +kernel
theorem dX12_thing_207 : decode cX12_thing 207 = .ok (.goto 154, 3) := by decide +kernel
theorem dX12_thing_210 : decode cX12_thing 210 = .ok (.iload_n 3, 1) := by decide +kernel
theorem dX12_thing_211 : decode cX12_thing 211 = .ok (.iconst 3, 1) := by decide +kernel
theorem dX12_thing_212 : decode cX12_thing 212 = .ok (.if_icmp .ne 87, 3) := by decide +kernel
theorem dX12_thing_215 : decode cX12_thing 215 = .ok (.aload_n 0, 1) := by decide +kernel
theorem dX12_thing_216 : decode cX12_thing 216 = .ok (.bipush 91, 2) := by decide +kernel
theorem dX12_thing_218 : decode cX12_thing 218 = .ok (.invokevirtual 517, 3) := by decide +kernel
theorem dX12_thing_221 : decode cX12_thing 221 = .ok (.pop, 1) := by decide +kernel
theorem dX12_thing_222 : decode cX12_thing 222 = .ok (.aload_n 0, 1) := by decide +kernel
theorem dX12_thing_223 : decode cX12_thing 223 = .ok (.getfield 395, 3) := by decide +kernel
theorem dX12_thing_226 : decode cX12_thing 226 = .ok (.ifCond .ne 56, 3) := by decide +kernel
theorem dX12_thing_229 : decode cX12_thing 229 = .ok (.aload_n 0, 1) := by decide +kernel
theorem dX12_thing_230 : decode cX12_thing 230 = .ok (.aload_n 0, 1) := by decide +kernel
theorem dX12_thing_231 : decode cX12_thing 231 = .ok (.getfield 408, 3) := by decide +kernel
theorem dX12_thing_234 : decode cX12_thing 234 = .ok (.iconst 2, 1) := by decide +kernel
theorem dX12_thing_235 : decode cX12_thing 235 = .ok (.if_icmp .ne 7, 3) := by decide +kernel
theorem dX12_thing_238 : decode cX12_thing 238 = .ok (.iconst 1, 1) := by decide +kernel
theorem dX12_thing_239 : decode cX12_thing 239 = .ok (.goto 4, 3) := by decide +kernel
theorem dX12_thing_242 : decode cX12_thing 242 = .ok (.iconst 0, 1) := by decide +kernel
theorem dX12_thing_243 : decode cX12_thing 243 = .ok (.invokevirtual 432, 3) := by decide +kernel
theorem dX12_thing_246 : decode cX12_thing 246 = .ok (.ifCond .eq 36, 3) := by decide +kernel
theorem dX12_thing_249 : decode cX12_thing 249 = .ok (.aload_n 0, 1) := by decide +kernel
theorem dX12_thing_250 : decode cX12_thing 250 = .ok (.aload_n 0, 1) := by decide +kernel
theorem dX12_thing_251 : decode cX12_thing 251 = .ok (.getfield 422, 3) := by decide +kernel
theorem dX12_thing_254 : decode cX12_thing 254 = .ok (.iconst 1, 1) := by decide +kernel
theorem dX12_thing_255 : decode cX12_thing 255 = .ok (.bipush 50, 2) := by decide +kernel
theorem dX12_thing_257 : decode cX12_thing 257 = .ok (.invokestatic 381, 3) := by decide +kernel
theorem dX12_thing_260 : decode cX12_thing 260 = .ok (.iconst 5, 1) := by decide +kernel
theorem dX12_thing_261 : decode cX12_thing 261 = .ok (.invokevirtual 455, 3) := by decide +kernel
theorem dX12_thing_264 : decode cX12_thing 264 = .ok (.ifCond .eq 18, 3) := by decide +kernel
theorem dX12_thing_267 : decode cX12_thing 267 = .ok (.aload_n 0, 1) := by decide +kernel
theorem dX12_thing_268 : decode cX12_thing 268 = .ok (.getfield 52, 3) := by decide +kernel
theorem dX12_thing_271 : decode cX12_thing 271 = .ok (.iload 4, 2) := by decide +kernel
theorem dX12_thing_273 : decode cX12_thing 273 = .ok (.aload_n 0, 1) := by decide +kernel
theorem dX12_thing_274 : decode cX12_thing 274 = .ok (.getfield 422, 3) := by decide +kernel
theorem dX12_thing_277 : decode cX12_thing 277 = .ok (.iastore, 1) := by decide +kernel
theorem dX12_thing_278 : decode cX12_thing 278 = .ok (.aload_n 0, 1) := by decide +kernel
theorem dX12_thing_279 : decode cX12_thing 279 = .ok (.invokevirtual 436, 3) := by decide +kernel
theorem dX12_thing_282 : decode cX12_thing 282 = .ok (.aload_n 0, 1) := by decide +kernel
theorem dX12_thing_283 : decode cX12_thing 283 = .ok (.bipush 93, 2) := by decide +kernel
theorem dX12_thing_285 : decode cX12_thing 285 = .ok (.invokevirtual 517, 3) := by decide +kernel
theorem dX12_thing_288 : decode cX12_thing 288 = .ok (.pop, 1) := by decide +kernel
theorem dX12_thing_289 : decode cX12_thing 289 = .ok (.aload_n 0, 1) := by decide +kernel
theorem dX12_thing_290 : decode cX12_thing 290 = .ok (.bipush 59, 2) := by decide +kernel
theorem dX12_thing_292 : decode cX12_thing 292 = .ok (.invokevirtual 517, 3) := by decide +kernel
theorem dX12_thing_295 : decode cX12_thing 295 = .ok (.pop, 1) := by decide +kernel
theorem dX12_thing_296 : decode cX12_thing 296 = .ok (.goto 65, 3) := by decide +kernel
theorem dX12_thing_299 : decode cX12_thing 299 = .ok (.aload_n 0, 1) := by decide +kernel
theorem dX12_thing_300 : decode cX12_thing 300 = .ok (.iconst 0, 1) := by decide +kernel
theorem dX12_thing_301 : decode cX12_thing 301 = .ok (.putfield 448, 3) := by decide +kernel
theorem dX12_thing_304 : decode cX12_thing 304 = .ok (.aload_n 0, 1) := by decide +kernel
theorem dX12_thing_305 : decode cX12_thing 305 = .ok (.bipush 40, 2) := by decide +kernel
theorem dX12_thing_307 : decode cX12_thing 307 = .ok (.invokevirtual 517, 3) := by decide +kernel
theorem dX12_thing_310 : decode cX12_thing 310 = .ok (.pop, 1) := by decide +kernel
theorem dX12_thing_311 : decode cX12_thing 311 = .ok (.aload_n 0, 1) := by decide +kernel
theorem dX12_thing_312 : decode cX12_thing 312 = .ok (.getfield 395, 3) := by decide +kernel
theorem dX12_thing_315 : decode cX12_thing 315 = .ok (.ifCond .ne 16, 3) := by decide +kernel
theorem dX12_thing_318 : decode cX12_thing 318 = .ok (.aload_n 0, 1) := by decide +kernel
theorem dX12_thing_319 : decode cX12_thing 319 = .ok (.getfield 408, 3) := by decide +kernel
theorem dX12_thing_322 : decode cX12_thing 322 = .ok (.bipush 41, 2) := by decide +kernel
theorem dX12_thing_324 : decode cX12_thing 324 = .ok (.if_icmp .eq 7, 3) := by decide +kernel
theorem dX12_thing_327 : decode cX12_thing 327 = .ok (.aload_n 0, 1) := by decide +kernel
theorem dX12_thing_328 : decode cX12_thing 328 = .ok (.invokevirtual 561, 3) := by decide +kernel
theorem dX12_thing_331 : decode cX12_thing 331 = .ok (.aload_n 0, 1) := by decide +kernel
theorem dX12_thing_332 : decode cX12_thing 332 = .ok (.bipush 41, 2) := by decide +kernel
theorem dX12_thing_334 : decode cX12_thing 334 = .ok (.invokevirtual 517, 3) := by decide +kernel
theorem dX12_thing_337 : decode cX12_thing 337 = .ok (.pop, 1) := by decide +kernel
theorem dX12_thing_338 : decode cX12_thing 338 = .ok (.aload_n 0, 1) := by decide +kernel
theorem dX12_thing_339 : decode cX12_thing 339 = .ok (.getfield 52, 3) := by decide +kernel
theorem dX12_thing_342 : decode cX12_thing 342 = .ok (.iload 4, 2) := by decide +kernel
theorem dX12_thing_344 : decode cX12_thing 344 = .ok (.aload_n 0, 1) := by decide +kernel
theorem dX12_thing_345 : decode cX12_thing 345 = .ok (.getfield 448, 3) := by decide +kernel
theorem dX12_thing_348 : decode cX12_thing 348 = .ok (.iastore, 1) := by decide +kernel
theorem dX12_thing_349 : decode cX12_thing 349 = .ok (.aload_n 0, 1) := by decide +kernel
theorem dX12_thing_350 : decode cX12_thing 350 = .ok (.getfield 55, 3) := by decide +kernel
theorem dX12_thing_353 : decode cX12_thing 353 = .ok (.iload 4, 2) := by decide +kernel
theorem dX12_thing_355 : decode cX12_thing 355 = .ok (.aload_n 0, 1) := by decide +kernel
theorem dX12_thing_356 : decode cX12_thing 356 = .ok (.iconst 1, 1) := by decide +kernel
theorem dX12_thing_357 : decode cX12_thing 357 = .ok (.invokevirtual 543, 3) := by decide +kernel
theorem dX12_thing_360 : decode cX12_thing 360 = .ok (.iastore, 1) := by decide +kernel
theorem dX12_thing_361 : decode cX12_thing 361 = .ok (.return_, 1) := by decide +kernel
theorem dX12_parameters_0 : decode cX12_parameters 0 = .ok (.iconst 1, 1) := by decide +kernel
theorem dX12_parameters_1 : decode cX12_parameters 1 = .ok (.istore_n 1, 1) := by decide +kernel
theorem dX12_parameters_2 : decode cX12_parameters 2 = .ok (.iload_n 1, 1) := by decide +kernel
theorem dX12_parameters_3 : decode cX12_parameters 3 = .ok (.ifCond .eq 123, 3) := by decide +kernel
theorem dX12_parameters_6 : decode cX12_parameters 6 = .ok (.iconst 0, 1) := by decide +kernel
theorem dX12_parameters_7 : decode cX12_parameters 7 = .ok (.istore_n 1, 1) := by decide +kernel
theorem dX12_parameters_8 : decode cX12_parameters 8 = .ok (.aload_n 0, 1) := by decide +kernel
theorem dX12_parameters_9 : decode cX12_parameters 9 = .ok (.getfield 395, 3) := by decide +kernel
theorem dX12_parameters_12 : decode cX12_parameters 12 = .ok (.ifCond .ne (-10), 3) := by decide +kernel
theorem dX12_parameters_15 : decode cX12_parameters 15 = .ok (.aload_n 0, 1) := by decide +kernel
theorem dX12_parameters_16 : decode cX12_parameters 16 = .ok (.aload_n 0, 1) := by decide +kernel
theorem dX12_parameters_17 : decode cX12_parameters 17 = .ok (.getfield 408, 3) := by decide +kernel
theorem dX12_parameters_20 : decode cX12_parameters 20 = .ok (.iconst 1, 1) := by decide +kernel
theorem dX12_parameters_21 : decode cX12_parameters 21 = .ok (.if_icmp .ne 7, 3) := by decide +kernel
theorem dX12_parameters_24 : decode cX12_parameters 24 = .ok (.iconst 1, 1) := by decide +kernel
theorem dX12_parameters_25 : decode cX12_parameters 25 = .ok (.goto 4, 3) := by decide +kernel
theorem dX12_parameters_28 : decode cX12_parameters 28 = .ok (.iconst 0, 1) := by decide +kernel
theorem dX12_parameters_29 : decode cX12_parameters 29 = .ok (.invokevirtual 432, 3) := by decide +kernel
theorem dX12_parameters_32 : decode cX12_parameters 32 = .ok (.ifCond .eq (-30), 3) := by decide +kernel
theorem dX12_parameters_35 : decode cX12_parameters 35 = .ok (.aload_n 0, 1) := by decide +kernel
theorem dX12_parameters_36 : decode cX12_parameters 36 = .ok (.aload_n 0, 1) := by decide +kernel
theorem dX12_parameters_37 : decode cX12_parameters 37 = .ok (.aload_n 0, 1) := by decide +kernel
theorem dX12_parameters_38 : decode cX12_parameters 38 = .ok (.getfield 415, 3) := by decide +kernel
theorem dX12_parameters_41 : decode cX12_parameters 41 = .ok (.invokevirtual 451, 3) := by decide +kernel
theorem dX12_parameters_44 : decode cX12_parameters 44 = .ok (.ifCond .ge 7, 3) := by decide +kernel
theorem dX12_parameters_47 : decode cX12_parameters 47 = .ok (.iconst 1, 1) := by decide +kernel
theorem dX12_parameters_48 : decode cX12_parameters 48 = .ok (.goto 4, 3) := by decide +kernel
theorem dX12_parameters_51 : decode cX12_parameters 51 = .ok (.iconst 0, 1) := by decide +kernel
theorem dX12_parameters_52 : decode cX12_parameters 52 = .ok (.iconst 3, 1) := by decide +kernel
theorem dX12_parameters_53 : decode cX12_parameters 53 = .ok (.invokevirtual 455, 3) := by decide +kernel
theorem dX12_parameters_56 : decode cX12_parameters 56 = .ok (.ifCond .eq (-54), 3) := by decide +kernel
theorem dX12_parameters_59 : decode cX12_parameters 59 = .ok (.aload_n 0, 1) := by decide +kernel
theorem dX12_parameters_60 : decode cX12_parameters 60 = .ok (.aload_n 0, 1) := by decide +kernel
theorem dX12_parameters_61 : decode cX12_parameters 61 = .ok (.getfield 448, 3) := by decide +kernel
theorem dX12_parameters_64 : decode cX12_parameters 64 = .ok (.iconst 4, 1) := by decide +kernel
theorem dX12_parameters_65 : decode cX12_parameters 65 = .ok (.if_icmp .ge 7, 3) := by decide +kernel
theorem dX12_parameters_68 : decode cX12_parameters 68 = .ok (.iconst 1, 1) := by decide +kernel
theorem dX12_parameters_69 : decode cX12_parameters 69 = .ok (.goto 4, 3) := by decide +kernel
theorem dX12_parameters_72 : decode cX12_parameters 72 = .ok (.iconst 0, 1) := by decide +kernel
theorem dX12_parameters_73 : decode cX12_parameters 73 = .ok (.bipush 6, 2) := by decide +kernel
theorem dX12_parameters_75 : decode cX12_parameters 75 = .ok (.invokevirtual 455, 3) := by decide +kernel
theorem dX12_parameters_78 : decode cX12_parameters 78 = .ok (.ifCond .eq (-76), 3) := by decide +kernel
theorem dX12_parameters_81 : decode cX12_parameters 81 = .ok (.aload_n 0, 1) := by decide +kernel
theorem dX12_parameters_82 : decode cX12_parameters 82 = .ok (.aload_n 0, 1) := by decide +kernel
theorem dX12_parameters_83 : decode cX12_parameters 83 = .ok (.getfield 415, 3) := by decide +kernel
theorem dX12_parameters_86 : decode cX12_parameters 86 = .ok (.invokevirtual 520, 3) := by decide +kernel
theorem dX12_parameters_89 : decode cX12_parameters 89 = .ok (.aload_n 0, 1) := by decide +kernel
theorem dX12_parameters_90 : decode cX12_parameters 90 = .ok (.invokevirtual 436, 3) := by decide +kernel
theorem dX12_parameters_93 : decode cX12_parameters 93 = .ok (.aload_n 0, 1) := by decide +kernel
theorem dX12_parameters_94 : decode cX12_parameters 94 = .ok (.getfield 395, 3) := by decide +kernel
theorem dX12_parameters_97 : decode cX12_parameters 97 = .ok (.ifCond .ne 16, 3) := by decide +kernel
theorem dX12_parameters_100 : decode cX12_parameters 100 = .ok (.aload_n 0, 1) := by decide +kernel
theorem dX12_parameters_101 : decode cX12_parameters 101 = .ok (.getfield 408, 3) := by decide +kernel
theorem dX12_parameters_104 : decode cX12_parameters 104 = .ok (.bipush 44, 2) := by decide +kernel
theorem dX12_parameters_106 : decode cX12_parameters 106 = .ok (.if_icmp .ne 7, 3) := by decide +kernel
theorem dX12_parameters_109 : decode cX12_parameters 109 = .ok (.iconst 1, 1) := by decide +kernel
theorem dX12_parameters_110 : decode cX12_parameters 110 = .ok (.goto 4, 3) := by decide +kernel
theorem dX12_parameters_113 : decode cX12_parameters 113 = .ok (.iconst 0, 1) := by decide +kernel
theorem dX12_parameters_114 : decode cX12_parameters 114 = .ok (.istore_n 1, 1) := by decide +kernel
theorem dX12_parameters_115 : decode cX12_parameters 115 = .ok (.iload_n 1, 1) := by decide +kernel
theorem dX12_parameters_116 : decode cX12_parameters 116 = .ok (.ifCond .eq (-114), 3) := by decide +kernel
theorem dX12_parameters_119 : decode cX12_parameters 119 = .ok (.aload_n 0, 1) := by decide +kernel
theorem dX12_parameters_120 : decode cX12_parameters 120 = .ok (.invokevirtual 436, 3) := by decide +kernel
theorem dX12_parameters_123 : decode cX12_parameters 123 = .ok (.goto (-121), 3) := by decide +kernel
theorem dX12_parameters_126 : decode cX12_parameters 126 = .ok (.return_, 1) := by decide +kernel
theorem dX12_newCase_0 : decode cX12_newCase 0 = .ok (.bipush 16, 2) := by decide +kernel
theorem dX12_newCase_2 : decode cX12_newCase 2 = .ok (.iload_n 1, 1) := by decide +kernel
theorem dX12_newCase_3 : decode cX12_newCase 3 = .ok (.imul, 1) := by decide +kernel
theorem dX12_newCase_4 : decode cX12_newCase 4 = .ok (.aload_n 0, 1) := by decide +kernel
theorem dX12_newCase_5 : decode cX12_newCase 5 = .ok (.getfield 58, 3) := by decide +kernel
theorem dX12_newCase_8 : decode cX12_newCase 8 = .ok (.iload_n 1, 1) := by decide +kernel
theorem dX12_newCase_9 : decode cX12_newCase 9 = .ok (.iaload, 1) := by decide +kernel
theorem dX12_newCase_10 : decode cX12_newCase 10 = .ok (.iadd, 1) := by decide +kernel
theorem dX12_newCase_11 : decode cX12_newCase 11 = .ok (.istore 7, 2) := by decide +kernel
theorem dX12_newCase_13 : decode cX12_newCase 13 = .ok (.aload_n 0, 1) := by decide +kernel
theorem dX12_newCase_14 : decode cX12_newCase 14 = .ok (.getfield 58, 3) := by decide +kernel
theorem dX12_newCase_17 : decode cX12_newCase 17 = .ok (.iload_n 1, 1) := by decide +kernel
theorem dX12_newCase_18 : decode cX12_newCase 18 = .ok (.dup2, 1) := by decide +kernel
theorem dX12_newCase_19 : decode cX12_newCase 19 = .ok (.iaload, 1) := by decide +kernel
theorem dX12_newCase_20 : decode cX12_newCase 20 = .ok (.iconst 1, 1) := by decide +kernel
theorem dX12_newCase_21 : decode cX12_newCase 21 = .ok (.iadd, 1) := by decide +kernel
theorem dX12_newCase_22 : decode cX12_newCase 22 = .ok (.iastore, 1) := by decide +kernel
theorem dX12_newCase_23 : decode cX12_newCase 23 = .ok (.aload_n 0, 1) := by decide +kernel
theorem dX12_newCase_24 : decode cX12_newCase 24 = .ok (.getfield 61, 3) := by decide +kernel
theorem dX12_newCase_27 : decode cX12_newCase 27 = .ok (.iload 7, 2) := by decide +kernel
theorem dX12_newCase_29 : decode cX12_newCase 29 = .ok (.lload_n 2, 1) := by decide +kernel
theorem dX12_newCase_30 : decode cX12_newCase 30 = .ok (.lastore, 1) := by decide +kernel
theorem dX12_newCase_31 : decode cX12_newCase 31 = .ok (.aload_n 0, 1) := by decide +kernel
theorem dX12_newCase_32 : decode cX12_newCase 32 = .ok (.getfield 64, 3) := by decide +kernel
theorem dX12_newCase_35 : decode cX12_newCase 35 = .ok (.iload 7, 2) := by decide +kernel
theorem dX12_newCase_37 : decode cX12_newCase 37 = .ok (.aload_n 0, 1) := by decide +kernel
theorem dX12_newCase_38 : decode cX12_newCase 38 = .ok (.getfield 442, 3) := by decide +kernel
theorem dX12_newCase_41 : decode cX12_newCase 41 = .ok (.iastore, 1) := by decide +kernel
theorem dX12_newCase_42 : decode cX12_newCase 42 = .ok (.aload_n 0, 1) := by decide +kernel
theorem dX12_newCase_43 : decode cX12_newCase 43 = .ok (.getfield 70, 3) := by decide +kernel
theorem dX12_newCase_46 : decode cX12_newCase 46 = .ok (.iload 7, 2) := by decide +kernel
theorem dX12_newCase_48 : decode cX12_newCase 48 = .ok (.iload 4, 2) := by decide +kernel
theorem dX12_newCase_50 : decode cX12_newCase 50 = .ok (.iastore, 1) := by decide +kernel
theorem dX12_newCase_51 : decode cX12_newCase 51 = .ok (.aload_n 0, 1) := by decide +kernel
theorem dX12_newCase_52 : decode cX12_newCase 52 = .ok (.getfield 73, 3) := by decide +kernel
theorem dX12_newCase_55 : decode cX12_newCase 55 = .ok (.iload 7, 2) := by decide +kernel
theorem dX12_newCase_57 : decode cX12_newCase 57 = .ok (.iload 5, 2) := by decide +kernel
theorem dX12_newCase_59 : decode cX12_newCase 59 = .ok (.bastore, 1) := by decide +kernel
theorem dX12_newCase_60 : decode cX12_newCase 60 = .ok (.aload_n 0, 1) := by decide +kernel
theorem dX12_newCase_61 : decode cX12_newCase 61 = .ok (.getfield 67, 3) := by decide +kernel
theorem dX12_newCase_64 : decode cX12_newCase 64 = .ok (.iload 7, 2) := by decide +kernel
theorem dX12_newCase_66 : decode cX12_newCase 66 = .ok (.iload 6, 2) := by decide +kernel
theorem dX12_newCase_68 : decode cX12_newCase 68 = .ok (.iastore, 1) := by decide +kernel
theorem dX12_newCase_69 : decode cX12_newCase 69 = .ok (.return_, 1) := by decide +kernel
theorem dX12_test_0 : decode cX12_test 0 = .ok (.aload_n 0, 1) := by decide +kernel
theorem dX12_test_1 : decode cX12_test 1 = .ok (.invokevirtual 436, 3) := by decide +kernel
theorem dX12_test_4 : decode cX12_test 4 = .ok (.aload_n 0, 1) := by decide +kernel
theorem dX12_test_5 : decode cX12_test 5 = .ok (.getfield 395, 3) := by decide +kernel
theorem dX12_test_8 : decode cX12_test 8 = .ok (.ifCond .ne 73, 3) := by decide +kernel
theorem dX12_test_11 : decode cX12_test 11 = .ok (.aload_n 0, 1) := by decide +kernel
theorem dX12_test_12 : decode cX12_test 12 = .ok (.aload_n 0, 1) := by decide +kernel
theorem dX12_test_13 : decode cX12_test 13 = .ok (.getfield 408, 3) := by decide +kernel
theorem dX12_test_16 : decode cX12_test 16 = .ok (.iconst 1, 1) := by decide +kernel
theorem dX12_test_17 : decode cX12_test 17 = .ok (.if_icmp .ne 7, 3) := by decide +kernel
theorem dX12_test_20 : decode cX12_test 20 = .ok (.iconst 1, 1) := by decide +kernel
theorem dX12_test_21 : decode cX12_test 21 = .ok (.goto 4, 3) := by decide +kernel
theorem dX12_test_24 : decode cX12_test 24 = .ok (.iconst 0, 1) := by decide +kernel
theorem dX12_test_25 : decode cX12_test 25 = .ok (.invokevirtual 432, 3) := by decide +kernel
theorem dX12_test_28 : decode cX12_test 28 = .ok (.ifCond .eq 53, 3) := by decide +kernel
theorem dX12_test_31 : decode cX12_test 31 = .ok (.aload_n 0, 1) := by decide +kernel
theorem dX12_test_32 : decode cX12_test 32 = .ok (.aload_n 0, 1) := by decide +kernel
theorem dX12_test_33 : decode cX12_test 33 = .ok (.iload_n 1, 1) := by decide +kernel
theorem dX12_test_34 : decode cX12_test 34 = .ok (.aload_n 0, 1) := by decide +kernel
theorem dX12_test_35 : decode cX12_test 35 = .ok (.getfield 415, 3) := by decide +kernel
theorem dX12_test_38 : decode cX12_test 38 = .ok (.invokevirtual 551, 3) := by decide +kernel
theorem dX12_test_41 : decode cX12_test 41 = .ok (.ifCond .ne 7, 3) := by decide +kernel
theorem dX12_test_44 : decode cX12_test 44 = .ok (.iconst 1, 1) := by decide +kernel
theorem dX12_test_45 : decode cX12_test 45 = .ok (.goto 4, 3) := by decide +kernel
theorem dX12_test_48 : decode cX12_test 48 = .ok (.iconst 0, 1) := by decide +kernel
theorem dX12_test_49 : decode cX12_test 49 = .ok (.iconst 3, 1) := by decide +kernel
theorem dX12_test_50 : decode cX12_test 50 = .ok (.invokevirtual 455, 3) := by decide +kernel
theorem dX12_test_53 : decode cX12_test 53 = .ok (.ifCond .eq 28, 3) := by decide +kernel
theorem dX12_test_56 : decode cX12_test 56 = .ok (.aload_n 0, 1) := by decide +kernel
theorem dX12_test_57 : decode cX12_test 57 = .ok (.aload_n 0, 1) := by decide +kernel
theorem dX12_test_58 : decode cX12_test 58 = .ok (.getfield 58, 3) := by decide +kernel
theorem dX12_test_61 : decode cX12_test 61 = .ok (.iload_n 1, 1) := by decide +kernel
theorem dX12_test_62 : decode cX12_test 62 = .ok (.iaload, 1) := by decide +kernel
theorem dX12_test_63 : decode cX12_test 63 = .ok (.bipush 16, 2) := by decide +kernel
theorem dX12_test_65 : decode cX12_test 65 = .ok (.if_icmp .ge 7, 3) := by decide +kernel
theorem dX12_test_68 : decode cX12_test 68 = .ok (.iconst 1, 1) := by decide +kernel
theorem dX12_test_69 : decode cX12_test 69 = .ok (.goto 4, 3) := by decide +kernel
theorem dX12_test_72 : decode cX12_test 72 = .ok (.iconst 0, 1) := by decide +kernel
theorem dX12_test_73 : decode cX12_test 73 = .ok (.bipush 6, 2) := by decide +kernel
theorem dX12_test_75 : decode cX12_test 75 = .ok (.invokevirtual 455, 3) := by decide +kernel
theorem dX12_test_78 : decode cX12_test 78 = .ok (.ifCond .ne 4, 3) := by decide +kernel
theorem dX12_test_81 : decode cX12_test 81 = .ok (.return_, 1) := by decide +kernel
theorem dX12_test_82 : decode cX12_test 82 = .ok (.aload_n 0, 1) := by decide +kernel
theorem dX12_test_83 : decode cX12_test 83 = .ok (.getfield 415, 3) := by decide +kernel
theorem dX12_test_86 : decode cX12_test 86 = .ok (.lstore_n 2, 1) := by decide +kernel
theorem dX12_test_87 : decode cX12_test 87 = .ok (.aload_n 0, 1) := by decide +kernel
theorem dX12_test_88 : decode cX12_test 88 = .ok (.getfield 58, 3) := by decide +kernel
theorem dX12_test_91 : decode cX12_test 91 = .ok (.iload_n 1, 1) := by decide +kernel
theorem dX12_test_92 : decode cX12_test 92 = .ok (.iaload, 1) := by decide +kernel
theorem dX12_test_93 : decode cX12_test 93 = .ok (.istore 4, 2) := by decide +kernel
theorem dX12_test_95 : decode cX12_test 95 = .ok (.aload_n 0, 1) := by decide +kernel
theorem dX12_test_96 : decode cX12_test 96 = .ok (.invokevirtual 436, 3) := by decide +kernel
theorem dX12_test_99 : decode cX12_test 99 = .ok (.aload_n 0, 1) := by decide +kernel
theorem dX12_test_100 : decode cX12_test 100 = .ok (.getfield 408, 3) := by decide +kernel
theorem dX12_test_103 : decode cX12_test 103 = .ok (.sipush 412, 3) := by decide +kernel
theorem dX12_test_106 : decode cX12_test 106 = .ok (.if_icmp .ne 7, 3) := by decide +kernel
theorem dX12_test_109 : decode cX12_test 109 = .ok (.iconst 1, 1) := by decide +kernel
theorem dX12_test_110 : decode cX12_test 110 = .ok (.goto 4, 3) := by decide +kernel
theorem dX12_test_113 : decode cX12_test 113 = .ok (.iconst 0, 1) := by decide +kernel
theorem dX12_test_114 : decode cX12_test 114 = .ok (.istore 5, 2) := by decide +kernel
theorem dX12_test_116 : decode cX12_test 116 = .ok (.iload 5, 2) := by decide +kernel
theorem dX12_test_118 : decode cX12_test 118 = .ok (.ifCond .eq 7, 3) := by decide +kernel
theorem dX12_test_121 : decode cX12_test 121 = .ok (.aload_n 0, 1) := by decide +kernel
theorem dX12_test_122 : decode cX12_test 122 = .ok (.invokevirtual 436, 3) := by decide +kernel
theorem dX12_test_125 : decode cX12_test 125 = .ok (.iconst 0, 1) := by decide +kernel
theorem dX12_test_126 : decode cX12_test 126 = .ok (.istore 6, 2) := by decide +kernel
theorem dX12_test_128 : decode cX12_test 128 = .ok (.aload_n 0, 1) := by decide +kernel
theorem dX12_test_129 : decode cX12_test 129 = .ok (.getfield 395, 3) := by decide +kernel
theorem dX12_test_132 : decode cX12_test 132 = .ok (.ifCond .ne 74, 3) := by decide +kernel
theorem dX12_test_135 : decode cX12_test 135 = .ok (.aload_n 0, 1) := by decide +kernel
theorem dX12_test_136 : decode cX12_test 136 = .ok (.getfield 408, 3) := by decide +kernel
theorem dX12_test_139 : decode cX12_test 139 = .ok (.sipush 413, 3) := by decide +kernel
theorem dX12_test_142 : decode cX12_test 142 = .ok (.if_icmp .ne 64, 3) := by decide +kernel
theorem dX12_test_145 : decode cX12_test 145 = .ok (.aload_n 0, 1) := by decide +kernel
theorem dX12_test_146 : decode cX12_test 146 = .ok (.invokevirtual 436, 3) := by decide +kernel
theorem dX12_test_149 : decode cX12_test 149 = .ok (.aload_n 0, 1) := by decide +kernel
theorem dX12_test_150 : decode cX12_test 150 = .ok (.getfield 395, 3) := by decide +kernel
theorem dX12_test_153 : decode cX12_test 153 = .ok (.ifCond .ne 53, 3) := by decide +kernel
theorem dX12_test_156 : decode cX12_test 156 = .ok (.aload_n 0, 1) := by decide +kernel
theorem dX12_test_157 : decode cX12_test 157 = .ok (.aload_n 0, 1) := by decide +kernel
theorem dX12_test_158 : decode cX12_test 158 = .ok (.getfield 408, 3) := by decide +kernel
theorem dX12_test_161 : decode cX12_test 161 = .ok (.iconst 2, 1) := by decide +kernel
theorem dX12_test_162 : decode cX12_test 162 = .ok (.if_icmp .ne 7, 3) := by decide +kernel
theorem dX12_test_165 : decode cX12_test 165 = .ok (.iconst 1, 1) := by decide +kernel
theorem dX12_test_166 : decode cX12_test 166 = .ok (.goto 4, 3) := by decide +kernel
theorem dX12_test_169 : decode cX12_test 169 = .ok (.iconst 0, 1) := by decide +kernel
theorem dX12_test_170 : decode cX12_test 170 = .ok (.invokevirtual 432, 3) := by decide +kernel
theorem dX12_test_173 : decode cX12_test 173 = .ok (.ifCond .eq 33, 3) := by decide +kernel
theorem dX12_test_176 : decode cX12_test 176 = .ok (.aload_n 0, 1) := by decide +kernel
theorem dX12_test_177 : decode cX12_test 177 = .ok (.aload_n 0, 1) := by decide +kernel
theorem dX12_test_178 : decode cX12_test 178 = .ok (.getfield 422, 3) := by decide +kernel
theorem dX12_test_181 : decode cX12_test 181 = .ok (.ifCond .le 7, 3) := by decide +kernel
theorem dX12_test_184 : decode cX12_test 184 = .ok (.iconst 1, 1) := by decide +kernel
theorem dX12_test_185 : decode cX12_test 185 = .ok (.goto 4, 3) := by decide +kernel
theorem dX12_test_188 : decode cX12_test 188 = .ok (.iconst 0, 1) := by decide +kernel
theorem dX12_test_189 : decode cX12_test 189 = .ok (.iconst 5, 1) := by decide +kernel
theorem dX12_test_190 : decode cX12_test 190 = .ok (.invokevirtual 455, 3) := by decide +kernel
theorem dX12_test_193 : decode cX12_test 193 = .ok (.ifCond .eq 13, 3) := by decide +kernel
theorem dX12_test_196 : decode cX12_test 196 = .ok (.aload_n 0, 1) := by decide +kernel
theorem dX12_test_197 : decode cX12_test 197 = .ok (.getfield 422, 3) := by decide +kernel
theorem dX12_test_200 : decode cX12_test 200 = .ok (.istore 6, 2) := by decide +kernel
theorem dX12_test_202 : decode cX12_test 202 = .ok (.aload_n 0, 1) := by decide +kernel
theorem dX12_test_203 : decode cX12_test 203 = .ok (.invokevirtual 436, 3) := by decide +kernel
theorem dX12_test_206 : decode cX12_test 206 = .ok (.aload_n 0, 1) := by decide +kernel
theorem dX12_test_207 : decode cX12_test 207 = .ok (.iload_n 1, 1) := by decide +kernel
theorem dX12_test_208 : decode cX12_test 208 = .ok (.lload_n 2, 1) := by decide +kernel
theorem dX12_test_209 : decode cX12_test 209 = .ok (.iload 6, 2) := by decide +kernel
theorem dX12_test_211 : decode cX12_test 211 = .ok (.iload 5, 2) := by decide +kernel
theorem dX12_test_213 : decode cX12_test 213 = .ok (.iconst 0, 1) := by decide +kernel
theorem dX12_test_214 : decode cX12_test 214 = .ok (.invokevirtual 564, 3) := by decide +kernel
theorem dX12_test_217 : decode cX12_test 217 = .ok (.aload_n 0, 1) := by decide +kernel
theorem dX12_test_218 : decode cX12_test 218 = .ok (.getfield 395, 3) := by decide +kernel
theorem dX12_test_221 : decode cX12_test 221 = .ok (.ifCond .ne 174, 3) := by decide +kernel
theorem dX12_test_224 : decode cX12_test 224 = .ok (.aload_n 0, 1) := by decide +kernel
theorem dX12_test_225 : decode cX12_test 225 = .ok (.getfield 408, 3) := by decide +kernel
theorem dX12_test_228 : decode cX12_test 228 = .ok (.sipush 414, 3) := by decide +kernel
theorem dX12_test_231 : decode cX12_test 231 = .ok (.if_icmp .ne 164, 3) := by decide +kernel
theorem dX12_test_234 : decode cX12_test 234 = .ok (.iconst 0, 1) := by decide +kernel
theorem dX12_test_235 : decode cX12_test 235 = .ok (.istore 7, 2) := by decide +kernel
theorem dX12_test_237 : decode cX12_test 237 = .ok (.iconst 1, 1) := by decide +kernel
theorem dX12_test_238 : decode cX12_test 238 = .ok (.istore 8, 2) := by decide +kernel
theorem dX12_test_240 : decode cX12_test 240 = .ok (.iload 8, 2) := by decide +kernel
theorem dX12_test_242 : decode cX12_test 242 = .ok (.ifCond .eq 153, 3) := by decide +kernel
theorem dX12_test_245 : decode cX12_test 245 = .ok (.aload_n 0, 1) := by decide +kernel
theorem dX12_test_246 : decode cX12_test 246 = .ok (.invokevirtual 436, 3) := by decide +kernel
theorem dX12_test_249 : decode cX12_test 249 = .ok (.iconst 0, 1) := by decide +kernel
theorem dX12_test_250 : decode cX12_test 250 = .ok (.istore 8, 2) := by decide +kernel
theorem dX12_test_252 : decode cX12_test 252 = .ok (.aload_n 0, 1) := by decide +kernel
theorem dX12_test_253 : decode cX12_test 253 = .ok (.getfield 395, 3) := by decide +kernel
theorem dX12_test_256 : decode cX12_test 256 = .ok (.ifCond .ne (-16), 3) := by decide +kernel
theorem dX12_test_259 : decode cX12_test 259 = .ok (.aload_n 0, 1) := by decide +kernel
theorem dX12_test_260 : decode cX12_test 260 = .ok (.aload_n 0, 1) := by decide +kernel
theorem dX12_test_261 : decode cX12_test 261 = .ok (.getfield 408, 3) := by decide +kernel
theorem dX12_test_264 : decode cX12_test 264 = .ok (.bipush 45, 2) := by decide +kernel
theorem dX12_test_266 : decode cX12_test 266 = .ok (.if_icmp .eq 11, 3) := by decide +kernel
theorem dX12_test_269 : decode cX12_test 269 = .ok (.aload_n 0, 1) := by decide +kernel
theorem dX12_test_270 : decode cX12_test 270 = .ok (.getfield 408, 3) := by decide +kernel
theorem dX12_test_273 : decode cX12_test 273 = .ok (.iconst 2, 1) := by decide +kernel
theorem dX12_test_274 : decode cX12_test 274 = .ok (.if_icmp .ne 7, 3) := by decide +kernel
theorem dX12_test_277 : decode cX12_test 277 = .ok (.iconst 1, 1) := by decide +kernel
theorem dX12_test_278 : decode cX12_test 278 = .ok (.goto 4, 3) := by decide +kernel
theorem dX12_test_281 : decode cX12_test 281 = .ok (.iconst 0, 1) := by decide +kernel
theorem dX12_test_282 : decode cX12_test 282 = .ok (.invokevirtual 432, 3) := by decide +kernel
theorem dX12_test_285 : decode cX12_test 285 = .ok (.ifCond .eq (-45), 3) := by decide +kernel
theorem dX12_test_288 : decode cX12_test 288 = .ok (.aload_n 0, 1) := by decide +kernel
theorem dX12_test_289 : decode cX12_test 289 = .ok (.iload 7, 2) := by decide +kernel
theorem dX12_test_291 : decode cX12_test 291 = .ok (.iconst 4, 1) := by decide +kernel
theorem dX12_test_292 : decode cX12_test 292 = .ok (.if_icmp .ge 23, 3) := by decide +kernel
theorem dX12_test_295 : decode cX12_test 295 = .ok (.iload 7, 2) := by decide +kernel
theorem dX12_test_297 : decode cX12_test 297 = .ok (.ifCond .eq 14, 3) := by decide +kernel
theorem dX12_test_300 : decode cX12_test 300 = .ok (.aload_n 0, 1) := by decide +kernel
theorem dX12_test_301 : decode cX12_test 301 = .ok (.getfield 58, 3) := by decide +kernel
theorem dX12_test_304 : decode cX12_test 304 = .ok (.iload_n 1, 1) := by decide +kernel
theorem dX12_test_305 : decode cX12_test 305 = .ok (.iaload, 1) := by decide +kernel
theorem dX12_test_306 : decode cX12_test 306 = .ok (.bipush 16, 2) := by decide +kernel
theorem dX12_test_308 : decode cX12_test 308 = .ok (.if_icmp .ge 7, 3) := by decide +kernel
theorem dX12_test_311 : decode cX12_test 311 = .ok (.iconst 1, 1) := by decide +kernel
theorem dX12_test_312 : decode cX12_test 312 = .ok (.goto 4, 3) := by decide +kernel
theorem dX12_test_315 : decode cX12_test 315 = .ok (.iconst 0, 1) := by decide +kernel
theorem dX12_test_316 : decode cX12_test 316 = .ok (.bipush 6, 2) := by decide +kernel
theorem dX12_test_318 : decode cX12_test 318 = .ok (.invokevirtual 455, 3) := by decide +kernel
theorem dX12_test_321 : decode cX12_test 321 = .ok (.ifCond .eq (-81), 3) := by decide +kernel
theorem dX12_test_324 : decode cX12_test 324 = .ok (.aload_n 0, 1) := by decide +kernel
theorem dX12_test_325 : decode cX12_test 325 = .ok (.invokevirtual 558, 3) := by decide +kernel
theorem dX12_test_328 : decode cX12_test 328 = .ok (.iload 7, 2) := by decide +kernel
theorem dX12_test_330 : decode cX12_test 330 = .ok (.ifCond .ne 22, 3) := by decide +kernel
theorem dX12_test_333 : decode cX12_test 333 = .ok (.aload_n 0, 1) := by decide +kernel
theorem dX12_test_334 : decode cX12_test 334 = .ok (.getfield 67, 3) := by decide +kernel
theorem dX12_test_337 : decode cX12_test 337 = .ok (.bipush 16, 2) := by decide +kernel
theorem dX12_test_339 : decode cX12_test 339 = .ok (.iload_n 1, 1) := by decide +kernel
theorem dX12_test_340 : decode cX12_test 340 = .ok (.imul, 1) := by decide +kernel
theorem dX12_test_341 : decode cX12_test 341 = .ok (.iload 4, 2) := by decide +kernel
theorem dX12_test_343 : decode cX12_test 343 = .ok (.iadd, 1) := by decide +kernel
theorem dX12_test_344 : decode cX12_test 344 = .ok (.aload_n 0, 1) := by decide +kernel
theorem dX12_test_345 : decode cX12_test 345 = .ok (.getfield 536, 3) := by decide +kernel
theorem dX12_test_348 : decode cX12_test 348 = .ok (.iastore, 1) := by decide +kernel
theorem dX12_test_349 : decode cX12_test 349 = .ok (.goto 17, 3) := by decide +kernel
theorem dX12_test_352 : decode cX12_test 352 = .ok (.aload_n 0, 1) := by decide +kernel
theorem dX12_test_353 : decode cX12_test 353 = .ok (.iload_n 1, 1) := by decide +kernel
theorem dX12_test_354 : decode cX12_test 354 = .ok (.lload_n 2, 1) := by decide +kernel
theorem dX12_test_355 : decode cX12_test 355 = .ok (.iload 6, 2) := by decide +kernel
theorem dX12_test_357 : decode cX12_test 357 = .ok (.iload 5, 2) := by decide +kernel
theorem dX12_test_359 : decode cX12_test 359 = .ok (.aload_n 0, 1) := by decide +kernel
theorem dX12_test_360 : decode cX12_test 360 = .ok (.getfield 536, 3) := by decide +kernel
theorem dX12_test_363 : decode cX12_test 363 = .ok (.invokevirtual 564, 3) := by decide +kernel
theorem dX12_test_366 : decode cX12_test 366 = .ok (.iinc 7 1, 3) := by decide +kernel
theorem dX12_test_369 : decode cX12_test 369 = .ok (.aload_n 0, 1) := by decide +kernel
theorem dX12_test_370 : decode cX12_test 370 = .ok (.getfield 395, 3) := by decide +kernel
theorem dX12_test_373 : decode cX12_test 373 = .ok (.ifCond .ne 16, 3) := by decide +kernel
theorem dX12_test_376 : decode cX12_test 376 = .ok (.aload_n 0, 1) := by decide +kernel
theorem dX12_test_377 : decode cX12_test 377 = .ok (.getfield 408, 3) := by decide +kernel
theorem dX12_test_380 : decode cX12_test 380 = .ok (.bipush 44, 2) := by decide +kernel
theorem dX12_test_382 : decode cX12_test 382 = .ok (.if_icmp .ne 7, 3) := by decide +kernel
theorem dX12_test_385 : decode cX12_test 385 = .ok (.iconst 1, 1) := by decide +kernel
theorem dX12_test_386 : decode cX12_test 386 = .ok (.goto 4, 3) := by decide +kernel
theorem dX12_test_389 : decode cX12_test 389 = .ok (.iconst 0, 1) := by decide +kernel
theorem dX12_test_390 : decode cX12_test 390 = .ok (.istore 8, 2) := by decide +kernel
theorem dX12_test_392 : decode cX12_test 392 = .ok (.goto (-152), 3) := by decide +kernel
theorem dX12_test_395 : decode cX12_test 395 = .ok (.aload_n 0, 1) := by decide +kernel
theorem dX12_test_396 : decode cX12_test 396 = .ok (.getfield 188, 3) := by decide +kernel
theorem dX12_test_399 : decode cX12_test 399 = .ok (.iconst 0, 1) := by decide +kernel
theorem dX12_test_400 : decode cX12_test 400 = .ok (.getstatic 568, 3) := by decide +kernel
theorem dX12_test_403 : decode cX12_test 403 = .ok (.lastore, 1) := by decide +kernel
theorem dX12_test_404 : decode cX12_test 404 = .ok (.aload_n 0, 1) := by decide +kernel
theorem dX12_test_405 : decode cX12_test 405 = .ok (.iconst 1, 1) := by decide +kernel
theorem dX12_test_406 : decode cX12_test 406 = .ok (.putfield 448, 3) := by decide +kernel
theorem dX12_test_409 : decode cX12_test 409 = .ok (.aload_n 0, 1) := by decide +kernel
theorem dX12_test_410 : decode cX12_test 410 = .ok (.iconst 0, 1) := by decide +kernel
theorem dX12_test_411 : decode cX12_test 411 = .ok (.invokevirtual 543, 3) := by decide +kernel
theorem dX12_test_414 : decode cX12_test 414 = .ok (.istore 7, 2) := by decide +kernel
theorem dX12_test_416 : decode cX12_test 416 = .ok (.iload 4, 2) := by decide +kernel
theorem dX12_test_418 : decode cX12_test 418 = .ok (.istore 8, 2) := by decide +kernel
theorem dX12_test_420 : decode cX12_test 420 = .ok (.iload 8, 2) := by decide +kernel
theorem dX12_test_422 : decode cX12_test 422 = .ok (.aload_n 0, 1) := by decide +kernel
theorem dX12_test_423 : decode cX12_test 423 = .ok (.getfield 58, 3) := by decide +kernel
theorem dX12_test_426 : decode cX12_test 426 = .ok (.iload_n 1, 1) := by decide +kernel
theorem dX12_test_427 : decode cX12_test 427 = .ok (.iaload, 1) := by decide +kernel
theorem dX12_test_428 : decode cX12_test 428 = .ok (.if_icmp .ge 23, 3) := by decide +kernel
theorem dX12_test_431 : decode cX12_test 431 = .ok (.aload_n 0, 1) := by decide +kernel
theorem dX12_test_432 : decode cX12_test 432 = .ok (.getfield 76, 3) := by decide +kernel
theorem dX12_test_435 : decode cX12_test 435 = .ok (.bipush 16, 2) := by decide +kernel
theorem dX12_test_437 : decode cX12_test 437 = .ok (.iload_n 1, 1) := by decide +kernel
theorem dX12_test_438 : decode cX12_test 438 = .ok (.imul, 1) := by decide +kernel
theorem dX12_test_439 : decode cX12_test 439 = .ok (.iload 8, 2) := by decide +kernel
theorem dX12_test_441 : decode cX12_test 441 = .ok (.iadd, 1) := by decide +kernel
theorem dX12_test_442 : decode cX12_test 442 = .ok (.iload 7, 2) := by decide +kernel
theorem dX12_test_444 : decode cX12_test 444 = .ok (.iastore, 1) := by decide +kernel
theorem dX12_test_445 : decode cX12_test 445 = .ok (.iinc 8 1, 3) := by decide +kernel
theorem dX12_test_448 : decode cX12_test 448 = .ok (.goto (-28), 3) := by decide +kernel
theorem dX12_test_451 : decode cX12_test 451 = .ok (.return_, 1) := by decide +kernel
theorem dX12_prop_0 : decode cX12_prop 0 = .ok (.aload_n 0, 1) := by decide +kernel
theorem dX12_prop_1 : decode cX12_prop 1 = .ok (.invokevirtual 436, 3) := by decide +kernel
theorem dX12_prop_4 : decode cX12_prop 4 = .ok (.aload_n 0, 1) := by decide +kernel
theorem dX12_prop_5 : decode cX12_prop 5 = .ok (.getfield 395, 3) := by decide +kernel
theorem dX12_prop_8 : decode cX12_prop 8 = .ok (.ifCond .ne 73, 3) := by decide +kernel
theorem dX12_prop_11 : decode cX12_prop 11 = .ok (.aload_n 0, 1) := by decide +kernel
theorem dX12_prop_12 : decode cX12_prop 12 = .ok (.aload_n 0, 1) := by decide +kernel
theorem dX12_prop_13 : decode cX12_prop 13 = .ok (.getfield 408, 3) := by decide +kernel
theorem dX12_prop_16 : decode cX12_prop 16 = .ok (.iconst 1, 1) := by decide +kernel
theorem dX12_prop_17 : decode cX12_prop 17 = .ok (.if_icmp .ne 7, 3) := by decide +kernel
theorem dX12_prop_20 : decode cX12_prop 20 = .ok (.iconst 1, 1) := by decide +kernel
theorem dX12_prop_21 : decode cX12_prop 21 = .ok (.goto 4, 3) := by decide +kernel
theorem dX12_prop_24 : decode cX12_prop 24 = .ok (.iconst 0, 1) := by decide +kernel
theorem dX12_prop_25 : decode cX12_prop 25 = .ok (.invokevirtual 432, 3) := by decide +kernel
theorem dX12_prop_28 : decode cX12_prop 28 = .ok (.ifCond .eq 53, 3) := by decide +kernel
theorem dX12_prop_31 : decode cX12_prop 31 = .ok (.aload_n 0, 1) := by decide +kernel
theorem dX12_prop_32 : decode cX12_prop 32 = .ok (.aload_n 0, 1) := by decide +kernel
theorem dX12_prop_33 : decode cX12_prop 33 = .ok (.iload_n 1, 1) := by decide +kernel
theorem dX12_prop_34 : decode cX12_prop 34 = .ok (.aload_n 0, 1) := by decide +kernel
theorem dX12_prop_35 : decode cX12_prop 35 = .ok (.getfield 415, 3) := by decide +kernel
theorem dX12_prop_38 : decode cX12_prop 38 = .ok (.invokevirtual 551, 3) := by decide +kernel
theorem dX12_prop_41 : decode cX12_prop 41 = .ok (.ifCond .ne 7, 3) := by decide +kernel
theorem dX12_prop_44 : decode cX12_prop 44 = .ok (.iconst 1, 1) := by decide +kernel
theorem dX12_prop_45 : decode cX12_prop 45 = .ok (.goto 4, 3) := by decide +kernel
theorem dX12_prop_48 : decode cX12_prop 48 = .ok (.iconst 0, 1) := by decide +kernel
theorem dX12_prop_49 : decode cX12_prop 49 = .ok (.iconst 3, 1) := by decide +kernel
theorem dX12_prop_50 : decode cX12_prop 50 = .ok (.invokevirtual 455, 3) := by decide +kernel
theorem dX12_prop_53 : decode cX12_prop 53 = .ok (.ifCond .eq 28, 3) := by decide +kernel
theorem dX12_prop_56 : decode cX12_prop 56 = .ok (.aload_n 0, 1) := by decide +kernel
theorem dX12_prop_57 : decode cX12_prop 57 = .ok (.aload_n 0, 1) := by decide +kernel
theorem dX12_prop_58 : decode cX12_prop 58 = .ok (.getfield 82, 3) := by decide +kernel
theorem dX12_prop_61 : decode cX12_prop 61 = .ok (.iload_n 1, 1) := by decide +kernel
theorem dX12_prop_62 : decode cX12_prop 62 = .ok (.iaload, 1) := by decide +kernel
theorem dX12_prop_63 : decode cX12_prop 63 = .ok (.bipush 6, 2) := by decide +kernel
theorem dX12_prop_65 : decode cX12_prop 65 = .ok (.if_icmp .ge 7, 3) := by decide +kernel
theorem dX12_prop_68 : decode cX12_prop 68 = .ok (.iconst 1, 1) := by decide +kernel
theorem dX12_prop_69 : decode cX12_prop 69 = .ok (.goto 4, 3) := by decide +kernel
theorem dX12_prop_72 : decode cX12_prop 72 = .ok (.iconst 0, 1) := by decide +kernel
theorem dX12_prop_73 : decode cX12_prop 73 = .ok (.bipush 6, 2) := by decide +kernel
theorem dX12_prop_75 : decode cX12_prop 75 = .ok (.invokevirtual 455, 3) := by decide +kernel
theorem dX12_prop_78 : decode cX12_prop 78 = .ok (.ifCond .ne 4, 3) := by decide +kernel
theorem dX12_prop_81 : decode cX12_prop 81 = .ok (.return_, 1) := by decide +kernel
theorem dX12_prop_82 : decode cX12_prop 82 = .ok (.bipush 6, 2) := by decide +kernel
theorem dX12_prop_84 : decode cX12_prop 84 = .ok (.iload_n 1, 1) := by decide +kernel
theorem dX12_prop_85 : decode cX12_prop 85 = .ok (.imul, 1) := by decide +kernel
theorem dX12_prop_86 : decode cX12_prop 86 = .ok (.aload_n 0, 1) := by decide +kernel
theorem dX12_prop_87 : decode cX12_prop 87 = .ok (.getfield 82, 3) := by decide +kernel
theorem dX12_prop_90 : decode cX12_prop 90 = .ok (.iload_n 1, 1) := by decide +kernel
theorem dX12_prop_91 : decode cX12_prop 91 = .ok (.iaload, 1) := by decide +kernel
theorem dX12_prop_92 : decode cX12_prop 92 = .ok (.iadd, 1) := by decide +kernel
theorem dX12_prop_93 : decode cX12_prop 93 = .ok (.istore_n 2, 1) := by decide +kernel
theorem dX12_prop_94 : decode cX12_prop 94 = .ok (.aload_n 0, 1) := by decide +kernel
theorem dX12_prop_95 : decode cX12_prop 95 = .ok (.getfield 82, 3) := by decide +kernel
theorem dX12_prop_98 : decode cX12_prop 98 = .ok (.iload_n 1, 1) := by decide +kernel
theorem dX12_prop_99 : decode cX12_prop 99 = .ok (.dup2, 1) := by decide +kernel
theorem dX12_prop_100 : decode cX12_prop 100 = .ok (.iaload, 1) := by decide +kernel
theorem dX12_prop_101 : decode cX12_prop 101 = .ok (.iconst 1, 1) := by decide +kernel
theorem dX12_prop_102 : decode cX12_prop 102 = .ok (.iadd, 1) := by decide +kernel
theorem dX12_prop_103 : decode cX12_prop 103 = .ok (.iastore, 1) := by decide +kernel
theorem dX12_prop_104 : decode cX12_prop 104 = .ok (.aload_n 0, 1) := by decide +kernel
theorem dX12_prop_105 : decode cX12_prop 105 = .ok (.getfield 85, 3) := by decide +kernel
theorem dX12_prop_108 : decode cX12_prop 108 = .ok (.iload_n 2, 1) := by decide +kernel
theorem dX12_prop_109 : decode cX12_prop 109 = .ok (.aload_n 0, 1) := by decide +kernel
theorem dX12_prop_110 : decode cX12_prop 110 = .ok (.getfield 415, 3) := by decide +kernel
theorem dX12_prop_113 : decode cX12_prop 113 = .ok (.lastore, 1) := by decide +kernel
theorem dX12_prop_114 : decode cX12_prop 114 = .ok (.aload_n 0, 1) := by decide +kernel
theorem dX12_prop_115 : decode cX12_prop 115 = .ok (.getfield 215, 3) := by decide +kernel
theorem dX12_prop_118 : decode cX12_prop 118 = .ok (.iload_n 2, 1) := by decide +kernel
theorem dX12_prop_119 : decode cX12_prop 119 = .ok (.aload_n 0, 1) := by decide +kernel
theorem dX12_prop_120 : decode cX12_prop 120 = .ok (.getfield 442, 3) := by decide +kernel
theorem dX12_prop_123 : decode cX12_prop 123 = .ok (.iastore, 1) := by decide +kernel
theorem dX12_prop_124 : decode cX12_prop 124 = .ok (.aload_n 0, 1) := by decide +kernel
theorem dX12_prop_125 : decode cX12_prop 125 = .ok (.invokevirtual 436, 3) := by decide +kernel
theorem dX12_prop_128 : decode cX12_prop 128 = .ok (.aload_n 0, 1) := by decide +kernel
theorem dX12_prop_129 : decode cX12_prop 129 = .ok (.bipush 40, 2) := by decide +kernel
theorem dX12_prop_131 : decode cX12_prop 131 = .ok (.invokevirtual 517, 3) := by decide +kernel
theorem dX12_prop_134 : decode cX12_prop 134 = .ok (.pop, 1) := by decide +kernel
theorem dX12_prop_135 : decode cX12_prop 135 = .ok (.aload_n 0, 1) := by decide +kernel
theorem dX12_prop_136 : decode cX12_prop 136 = .ok (.invokevirtual 561, 3) := by decide +kernel
theorem dX12_prop_139 : decode cX12_prop 139 = .ok (.aload_n 0, 1) := by decide +kernel
theorem dX12_prop_140 : decode cX12_prop 140 = .ok (.bipush 41, 2) := by decide +kernel
theorem dX12_prop_142 : decode cX12_prop 142 = .ok (.invokevirtual 517, 3) := by decide +kernel
theorem dX12_prop_145 : decode cX12_prop 145 = .ok (.pop, 1) := by decide +kernel
theorem dX12_prop_146 : decode cX12_prop 146 = .ok (.aload_n 0, 1) := by decide +kernel
theorem dX12_prop_147 : decode cX12_prop 147 = .ok (.getfield 88, 3) := by decide +kernel
theorem dX12_prop_150 : decode cX12_prop 150 = .ok (.iload_n 2, 1) := by decide +kernel
theorem dX12_prop_151 : decode cX12_prop 151 = .ok (.aload_n 0, 1) := by decide +kernel
theorem dX12_prop_152 : decode cX12_prop 152 = .ok (.getfield 448, 3) := by decide +kernel
theorem dX12_prop_155 : decode cX12_prop 155 = .ok (.iastore, 1) := by decide +kernel
theorem dX12_prop_156 : decode cX12_prop 156 = .ok (.aload_n 0, 1) := by decide +kernel
theorem dX12_prop_157 : decode cX12_prop 157 = .ok (.getfield 91, 3) := by decide +kernel
theorem dX12_prop_160 : decode cX12_prop 160 = .ok (.iload_n 2, 1) := by decide +kernel
theorem dX12_prop_161 : decode cX12_prop 161 = .ok (.aload_n 0, 1) := by decide +kernel
theorem dX12_prop_162 : decode cX12_prop 162 = .ok (.iconst 0, 1) := by decide +kernel
theorem dX12_prop_163 : decode cX12_prop 163 = .ok (.invokevirtual 543, 3) := by decide +kernel
theorem dX12_prop_166 : decode cX12_prop 166 = .ok (.iastore, 1) := by decide +kernel
theorem dX12_prop_167 : decode cX12_prop 167 = .ok (.return_, 1) := by decide +kernel
theorem dX12_unitOf_0 : decode cX12_unitOf 0 = .ok (.iconst 0, 1) := by decide +kernel
theorem dX12_unitOf_1 : decode cX12_unitOf 1 = .ok (.istore 4, 2) := by decide +kernel
theorem dX12_unitOf_3 : decode cX12_unitOf 3 = .ok (.iload 4, 2) := by decide +kernel
theorem dX12_unitOf_5 : decode cX12_unitOf 5 = .ok (.aload_n 0, 1) := by decide +kernel
theorem dX12_unitOf_6 : decode cX12_unitOf 6 = .ok (.getfield 13, 3) := by decide +kernel
theorem dX12_unitOf_9 : decode cX12_unitOf 9 = .ok (.iload_n 1, 1) := by decide +kernel
theorem dX12_unitOf_10 : decode cX12_unitOf 10 = .ok (.iaload, 1) := by decide +kernel
theorem dX12_unitOf_11 : decode cX12_unitOf 11 = .ok (.if_icmp .ge 29, 3) := by decide +kernel
theorem dX12_unitOf_14 : decode cX12_unitOf 14 = .ok (.aload_n 0, 1) := by decide +kernel
theorem dX12_unitOf_15 : decode cX12_unitOf 15 = .ok (.getfield 17, 3) := by decide +kernel
theorem dX12_unitOf_18 : decode cX12_unitOf 18 = .ok (.bipush 8, 2) := by decide +kernel
theorem dX12_unitOf_20 : decode cX12_unitOf 20 = .ok (.iload_n 1, 1) := by decide +kernel
theorem dX12_unitOf_21 : decode cX12_unitOf 21 = .ok (.imul, 1) := by decide +kernel
theorem dX12_unitOf_22 : decode cX12_unitOf 22 = .ok (.iload 4, 2) := by decide +kernel
theorem dX12_unitOf_24 : decode cX12_unitOf 24 = .ok (.iadd, 1) := by decide +kernel
theorem dX12_unitOf_25 : decode cX12_unitOf 25 = .ok (.laload, 1) := by decide +kernel
theorem dX12_unitOf_26 : decode cX12_unitOf 26 = .ok (.lload_n 2, 1) := by decide +kernel
theorem dX12_unitOf_27 : decode cX12_unitOf 27 = .ok (.lcmp, 1) := by decide +kernel
theorem dX12_unitOf_28 : decode cX12_unitOf 28 = .ok (.ifCond .ne 6, 3) := by decide +kernel
theorem dX12_unitOf_31 : decode cX12_unitOf 31 = .ok (.iload 4, 2) := by decide +kernel
theorem dX12_unitOf_33 : decode cX12_unitOf 33 = .ok (.ireturn, 1) := by decide +kernel
theorem dX12_unitOf_34 : decode cX12_unitOf 34 = .ok (.iinc 4 1, 3) := by decide +kernel
theorem dX12_unitOf_37 : decode cX12_unitOf 37 = .ok (.goto (-34), 3) := by decide +kernel
theorem dX12_unitOf_40 : decode cX12_unitOf 40 = .ok (.iconst (-1), 1) := by decide +kernel
theorem dX12_unitOf_41 : decode cX12_unitOf 41 = .ok (.ireturn, 1) := by decide +kernel
theorem dX12_memberOf_0 : decode cX12_memberOf 0 = .ok (.iconst 0, 1) := by decide +kernel
theorem dX12_memberOf_1 : decode cX12_memberOf 1 = .ok (.istore 5, 2) := by decide +kernel
theorem dX12_memberOf_3 : decode cX12_memberOf 3 = .ok (.iload 5, 2) := by decide +kernel
theorem dX12_memberOf_5 : decode cX12_memberOf 5 = .ok (.aload_n 0, 1) := by decide +kernel
theorem dX12_memberOf_6 : decode cX12_memberOf 6 = .ok (.getfield 36, 3) := by decide +kernel
theorem dX12_memberOf_9 : decode cX12_memberOf 9 = .ok (.iload_n 1, 1) := by decide +kernel
theorem dX12_memberOf_10 : decode cX12_memberOf 10 = .ok (.iaload, 1) := by decide +kernel
theorem dX12_memberOf_11 : decode cX12_memberOf 11 = .ok (.if_icmp .ge 45, 3) := by decide +kernel
theorem dX12_memberOf_14 : decode cX12_memberOf 14 = .ok (.aload_n 0, 1) := by decide +kernel
theorem dX12_memberOf_15 : decode cX12_memberOf 15 = .ok (.getfield 42, 3) := by decide +kernel
theorem dX12_memberOf_18 : decode cX12_memberOf 18 = .ok (.bipush 96, 2) := by decide +kernel
theorem dX12_memberOf_20 : decode cX12_memberOf 20 = .ok (.iload_n 1, 1) := by decide +kernel
theorem dX12_memberOf_21 : decode cX12_memberOf 21 = .ok (.imul, 1) := by decide +kernel
theorem dX12_memberOf_22 : decode cX12_memberOf 22 = .ok (.iload 5, 2) := by decide +kernel
theorem dX12_memberOf_24 : decode cX12_memberOf 24 = .ok (.iadd, 1) := by decide +kernel
theorem dX12_memberOf_25 : decode cX12_memberOf 25 = .ok (.iaload, 1) := by decide +kernel
theorem dX12_memberOf_26 : decode cX12_memberOf 26 = .ok (.iload_n 2, 1) := by decide +kernel
theorem dX12_memberOf_27 : decode cX12_memberOf 27 = .ok (.if_icmp .ne 23, 3) := by decide +kernel
theorem dX12_memberOf_30 : decode cX12_memberOf 30 = .ok (.aload_n 0, 1) := by decide +kernel
theorem dX12_memberOf_31 : decode cX12_memberOf 31 = .ok (.getfield 39, 3) := by decide +kernel
theorem dX12_memberOf_34 : decode cX12_memberOf 34 = .ok (.bipush 96, 2) := by decide +kernel
theorem dX12_memberOf_36 : decode cX12_memberOf 36 = .ok (.iload_n 1, 1) := by decide +kernel
theorem dX12_memberOf_37 : decode cX12_memberOf 37 = .ok (.imul, 1) := by decide +kernel
theorem dX12_memberOf_38 : decode cX12_memberOf 38 = .ok (.iload 5, 2) := by decide +kernel
theorem dX12_memberOf_40 : decode cX12_memberOf 40 = .ok (.iadd, 1) := by decide +kernel
theorem dX12_memberOf_41 : decode cX12_memberOf 41 = .ok (.laload, 1) := by decide +kernel
theorem dX12_memberOf_42 : decode cX12_memberOf 42 = .ok (.lload_n 3, 1) := by decide +kernel
theorem dX12_memberOf_43 : decode cX12_memberOf 43 = .ok (.lcmp, 1) := by decide +kernel
theorem dX12_memberOf_44 : decode cX12_memberOf 44 = .ok (.ifCond .ne 6, 3) := by decide +kernel
theorem dX12_memberOf_47 : decode cX12_memberOf 47 = .ok (.iload 5, 2) := by decide +kernel
theorem dX12_memberOf_49 : decode cX12_memberOf 49 = .ok (.ireturn, 1) := by decide +kernel
theorem dX12_memberOf_50 : decode cX12_memberOf 50 = .ok (.iinc 5 1, 3) := by decide +kernel
theorem dX12_memberOf_53 : decode cX12_memberOf 53 = .ok (.goto (-50), 3) := by decide +kernel
theorem dX12_memberOf_56 : decode cX12_memberOf 56 = .ok (.iconst (-1), 1) := by decide +kernel
theorem dX12_memberOf_57 : decode cX12_memberOf 57 = .ok (.ireturn, 1) := by decide +kernel
theorem dX12_readUnit_0 : decode cX12_readUnit 0 = .ok (.aload_n 0, 1) := by decide +kernel
theorem dX12_readUnit_1 : decode cX12_readUnit 1 = .ok (.invokevirtual 436, 3) := by decide +kernel
theorem dX12_readUnit_4 : decode cX12_readUnit 4 = .ok (.aload_n 0, 1) := by decide +kernel
theorem dX12_readUnit_5 : decode cX12_readUnit 5 = .ok (.getfield 395, 3) := by decide +kernel
theorem dX12_readUnit_8 : decode cX12_readUnit 8 = .ok (.ifCond .ne 73, 3) := by decide +kernel
theorem dX12_readUnit_11 : decode cX12_readUnit 11 = .ok (.aload_n 0, 1) := by decide +kernel
theorem dX12_readUnit_12 : decode cX12_readUnit 12 = .ok (.aload_n 0, 1) := by decide +kernel
theorem dX12_readUnit_13 : decode cX12_readUnit 13 = .ok (.getfield 408, 3) := by decide +kernel
theorem dX12_readUnit_16 : decode cX12_readUnit 16 = .ok (.iconst 1, 1) := by decide +kernel
theorem dX12_readUnit_17 : decode cX12_readUnit 17 = .ok (.if_icmp .ne 7, 3) := by decide +kernel
theorem dX12_readUnit_20 : decode cX12_readUnit 20 = .ok (.iconst 1, 1) := by decide +kernel
theorem dX12_readUnit_21 : decode cX12_readUnit 21 = .ok (.goto 4, 3) := by decide +kernel
theorem dX12_readUnit_24 : decode cX12_readUnit 24 = .ok (.iconst 0, 1) := by decide +kernel
theorem dX12_readUnit_25 : decode cX12_readUnit 25 = .ok (.invokevirtual 432, 3) := by decide +kernel
theorem dX12_readUnit_28 : decode cX12_readUnit 28 = .ok (.ifCond .eq 53, 3) := by decide +kernel
theorem dX12_readUnit_31 : decode cX12_readUnit 31 = .ok (.aload_n 0, 1) := by decide +kernel
theorem dX12_readUnit_32 : decode cX12_readUnit 32 = .ok (.aload_n 0, 1) := by decide +kernel
theorem dX12_readUnit_33 : decode cX12_readUnit 33 = .ok (.iload_n 1, 1) := by decide +kernel
theorem dX12_readUnit_34 : decode cX12_readUnit 34 = .ok (.aload_n 0, 1) := by decide +kernel
theorem dX12_readUnit_35 : decode cX12_readUnit 35 = .ok (.getfield 415, 3) := by decide +kernel
theorem dX12_readUnit_38 : decode cX12_readUnit 38 = .ok (.invokevirtual 571, 3) := by decide +kernel
theorem dX12_readUnit_41 : decode cX12_readUnit 41 = .ok (.ifCond .ge 7, 3) := by decide +kernel
theorem dX12_readUnit_44 : decode cX12_readUnit 44 = .ok (.iconst 1, 1) := by decide +kernel
theorem dX12_readUnit_45 : decode cX12_readUnit 45 = .ok (.goto 4, 3) := by decide +kernel
theorem dX12_readUnit_48 : decode cX12_readUnit 48 = .ok (.iconst 0, 1) := by decide +kernel
theorem dX12_readUnit_49 : decode cX12_readUnit 49 = .ok (.iconst 3, 1) := by decide +kernel
theorem dX12_readUnit_50 : decode cX12_readUnit 50 = .ok (.invokevirtual 455, 3) := by decide +kernel
theorem dX12_readUnit_53 : decode cX12_readUnit 53 = .ok (.ifCond .eq 28, 3) := by decide +kernel
theorem dX12_readUnit_56 : decode cX12_readUnit 56 = .ok (.aload_n 0, 1) := by decide +kernel
theorem dX12_readUnit_57 : decode cX12_readUnit 57 = .ok (.aload_n 0, 1) := by decide +kernel
theorem dX12_readUnit_58 : decode cX12_readUnit 58 = .ok (.getfield 13, 3) := by decide +kernel
theorem dX12_readUnit_61 : decode cX12_readUnit 61 = .ok (.iload_n 1, 1) := by decide +kernel
theorem dX12_readUnit_62 : decode cX12_readUnit 62 = .ok (.iaload, 1) := by decide +kernel
theorem dX12_readUnit_63 : decode cX12_readUnit 63 = .ok (.bipush 8, 2) := by decide +kernel
theorem dX12_readUnit_65 : decode cX12_readUnit 65 = .ok (.if_icmp .ge 7, 3) := by decide +kernel
theorem dX12_readUnit_68 : decode cX12_readUnit 68 = .ok (.iconst 1, 1) := by decide +kernel
theorem dX12_readUnit_69 : decode cX12_readUnit 69 = .ok (.goto 4, 3) := by decide +kernel
theorem dX12_readUnit_72 : decode cX12_readUnit 72 = .ok (.iconst 0, 1) := by decide +kernel
theorem dX12_readUnit_73 : decode cX12_readUnit 73 = .ok (.bipush 6, 2) := by decide +kernel
theorem dX12_readUnit_75 : decode cX12_readUnit 75 = .ok (.invokevirtual 455, 3) := by decide +kernel
theorem dX12_readUnit_78 : decode cX12_readUnit 78 = .ok (.ifCond .ne 4, 3) := by decide +kernel
theorem dX12_readUnit_81 : decode cX12_readUnit 81 = .ok (.return_, 1) := by decide +kernel
theorem dX12_readUnit_82 : decode cX12_readUnit 82 = .ok (.aload_n 0, 1) := by decide +kernel
theorem dX12_readUnit_83 : decode cX12_readUnit 83 = .ok (.aload_n 0, 1) := by decide +kernel
theorem dX12_readUnit_84 : decode cX12_readUnit 84 = .ok (.getfield 13, 3) := by decide +kernel
theorem dX12_readUnit_87 : decode cX12_readUnit 87 = .ok (.iload_n 1, 1) := by decide +kernel
theorem dX12_readUnit_88 : decode cX12_readUnit 88 = .ok (.iaload, 1) := by decide +kernel
theorem dX12_readUnit_89 : decode cX12_readUnit 89 = .ok (.putfield 442, 3) := by decide +kernel
theorem dX12_readUnit_92 : decode cX12_readUnit 92 = .ok (.bipush 8, 2) := by decide +kernel
theorem dX12_readUnit_94 : decode cX12_readUnit 94 = .ok (.iload_n 1, 1) := by decide +kernel
theorem dX12_readUnit_95 : decode cX12_readUnit 95 = .ok (.imul, 1) := by decide +kernel
theorem dX12_readUnit_96 : decode cX12_readUnit 96 = .ok (.aload_n 0, 1) := by decide +kernel
theorem dX12_readUnit_97 : decode cX12_readUnit 97 = .ok (.getfield 442, 3) := by decide +kernel
theorem dX12_readUnit_100 : decode cX12_readUnit 100 = .ok (.iadd, 1) := by decide +kernel
theorem dX12_readUnit_101 : decode cX12_readUnit 101 = .ok (.istore_n 2, 1) := by decide +kernel
theorem dX12_readUnit_102 : decode cX12_readUnit 102 = .ok (.aload_n 0, 1) := by decide +kernel
theorem dX12_readUnit_103 : decode cX12_readUnit 103 = .ok (.getfield 17, 3) := by decide +kernel
theorem dX12_readUnit_106 : decode cX12_readUnit 106 = .ok (.iload_n 2, 1) := by decide +kernel
theorem dX12_readUnit_107 : decode cX12_readUnit 107 = .ok (.aload_n 0, 1) := by decide +kernel
theorem dX12_readUnit_108 : decode cX12_readUnit 108 = .ok (.getfield 415, 3) := by decide +kernel
theorem dX12_readUnit_111 : decode cX12_readUnit 111 = .ok (.lastore, 1) := by decide +kernel
theorem dX12_readUnit_112 : decode cX12_readUnit 112 = .ok (.aload_n 0, 1) := by decide +kernel
theorem dX12_readUnit_113 : decode cX12_readUnit 113 = .ok (.getfield 21, 3) := by decide +kernel
theorem dX12_readUnit_116 : decode cX12_readUnit 116 = .ok (.iload_n 2, 1) := by decide +kernel
theorem dX12_readUnit_117 : decode cX12_readUnit 117 = .ok (.iconst (-1), 1) := by decide +kernel
theorem dX12_readUnit_118 : decode cX12_readUnit 118 = .ok (.iastore, 1) := by decide +kernel
theorem dX12_readUnit_119 : decode cX12_readUnit 119 = .ok (.aload_n 0, 1) := by decide +kernel
theorem dX12_readUnit_120 : decode cX12_readUnit 120 = .ok (.getfield 24, 3) := by decide +kernel
theorem dX12_readUnit_123 : decode cX12_readUnit 123 = .ok (.iload_n 2, 1) := by decide +kernel
theorem dX12_readUnit_124 : decode cX12_readUnit 124 = .ok (.iconst 0, 1) := by decide +kernel
theorem dX12_readUnit_125 : decode cX12_readUnit 125 = .ok (.iastore, 1) := by decide +kernel
theorem dX12_readUnit_126 : decode cX12_readUnit 126 = .ok (.aload_n 0, 1) := by decide +kernel
theorem dX12_readUnit_127 : decode cX12_readUnit 127 = .ok (.getfield 30, 3) := by decide +kernel
theorem dX12_readUnit_130 : decode cX12_readUnit 130 = .ok (.iload_n 2, 1) := by decide +kernel
theorem dX12_readUnit_131 : decode cX12_readUnit 131 = .ok (.iconst 0, 1) := by decide +kernel
theorem dX12_readUnit_132 : decode cX12_readUnit 132 = .ok (.iastore, 1) := by decide +kernel
theorem dX12_readUnit_133 : decode cX12_readUnit 133 = .ok (.aload_n 0, 1) := by decide +kernel
theorem dX12_readUnit_134 : decode cX12_readUnit 134 = .ok (.iconst 0, 1) := by decide +kernel
theorem dX12_readUnit_135 : decode cX12_readUnit 135 = .ok (.putfield 555, 3) := by decide +kernel
theorem dX12_readUnit_138 : decode cX12_readUnit 138 = .ok (.aload_n 0, 1) := by decide +kernel
theorem dX12_readUnit_139 : decode cX12_readUnit 139 = .ok (.getfield 13, 3) := by decide +kernel
theorem dX12_readUnit_142 : decode cX12_readUnit 142 = .ok (.iload_n 1, 1) := by decide +kernel
theorem dX12_readUnit_143 : decode cX12_readUnit 143 = .ok (.dup2, 1) := by decide +kernel
theorem dX12_readUnit_144 : decode cX12_readUnit 144 = .ok (.iaload, 1) := by decide +kernel
theorem dX12_readUnit_145 : decode cX12_readUnit 145 = .ok (.iconst 1, 1) := by decide +kernel
theorem dX12_readUnit_146 : decode cX12_readUnit 146 = .ok (.iadd, 1) := by decide +kernel
theorem dX12_readUnit_147 : decode cX12_readUnit 147 = .ok (.iastore, 1) := by decide +kernel
theorem dX12_readUnit_148 : decode cX12_readUnit 148 = .ok (.aload_n 0, 1) := by decide +kernel
theorem dX12_readUnit_149 : decode cX12_readUnit 149 = .ok (.invokevirtual 436, 3) := by decide +kernel
theorem dX12_readUnit_152 : decode cX12_readUnit 152 = .ok (.aload_n 0, 1) := by decide +kernel
theorem dX12_readUnit_153 : decode cX12_readUnit 153 = .ok (.bipush 123, 2) := by decide +kernel
theorem dX12_readUnit_155 : decode cX12_readUnit 155 = .ok (.invokevirtual 517, 3) := by decide +kernel
theorem dX12_readUnit_158 : decode cX12_readUnit 158 = .ok (.pop, 1) := by decide +kernel
theorem dX12_readUnit_159 : decode cX12_readUnit 159 = .ok (.aload_n 0, 1) := by decide +kernel
theorem dX12_readUnit_160 : decode cX12_readUnit 160 = .ok (.getfield 395, 3) := by decide +kernel
theorem dX12_readUnit_163 : decode cX12_readUnit 163 = .ok (.ifCond .ne 20, 3) := by decide +kernel
theorem dX12_readUnit_166 : decode cX12_readUnit 166 = .ok (.aload_n 0, 1) := by decide +kernel
theorem dX12_readUnit_167 : decode cX12_readUnit 167 = .ok (.getfield 408, 3) := by decide +kernel
theorem dX12_readUnit_170 : decode cX12_readUnit 170 = .ok (.bipush 125, 2) := by decide +kernel
theorem dX12_readUnit_172 : decode cX12_readUnit 172 = .ok (.if_icmp .eq 11, 3) := by decide +kernel
theorem dX12_readUnit_175 : decode cX12_readUnit 175 = .ok (.aload_n 0, 1) := by decide +kernel
theorem dX12_readUnit_176 : decode cX12_readUnit 176 = .ok (.iload_n 1, 1) := by decide +kernel
theorem dX12_readUnit_177 : decode cX12_readUnit 177 = .ok (.invokevirtual 575, 3) := by decide +kernel
theorem dX12_readUnit_180 : decode cX12_readUnit 180 = .ok (.goto (-21), 3) := by decide +kernel
theorem dX12_readUnit_183 : decode cX12_readUnit 183 = .ok (.aload_n 0, 1) := by decide +kernel
theorem dX12_readUnit_184 : decode cX12_readUnit 184 = .ok (.invokevirtual 436, 3) := by decide +kernel
theorem dX12_readUnit_187 : decode cX12_readUnit 187 = .ok (.return_, 1) := by decide +kernel
theorem dX12_lookUp_0 : decode cX12_lookUp 0 = .ok (.iconst 0, 1) := by decide +kernel
theorem dX12_lookUp_1 : decode cX12_lookUp 1 = .ok (.istore_n 2, 1) := by decide +kernel
theorem dX12_lookUp_2 : decode cX12_lookUp 2 = .ok (.iload_n 2, 1) := by decide +kernel
theorem dX12_lookUp_3 : decode cX12_lookUp 3 = .ok (.aload_n 0, 1) := by decide +kernel
theorem dX12_lookUp_4 : decode cX12_lookUp 4 = .ok (.getfield 462, 3) := by decide +kernel
theorem dX12_lookUp_7 : decode cX12_lookUp 7 = .ok (.if_icmp .ge 328, 3) := by decide +kernel
theorem dX12_lookUp_10 : decode cX12_lookUp 10 = .ok (.aload_n 0, 1) := by decide +kernel
theorem dX12_lookUp_11 : decode cX12_lookUp 11 = .ok (.getfield 395, 3) := by decide +kernel
theorem dX12_lookUp_14 : decode cX12_lookUp 14 = .ok (.ifCond .ne 321, 3) := by decide +kernel
theorem dX12_lookUp_17 : decode cX12_lookUp 17 = .ok (.aload_n 0, 1) := by decide +kernel
theorem dX12_lookUp_18 : decode cX12_lookUp 18 = .ok (.getfield 197, 3) := by decide +kernel
theorem dX12_lookUp_21 : decode cX12_lookUp 21 = .ok (.iload_n 2, 1) := by decide +kernel
theorem dX12_lookUp_22 : decode cX12_lookUp 22 = .ok (.laload, 1) := by decide +kernel
theorem dX12_lookUp_23 : decode cX12_lookUp 23 = .ok (.lconst 0, 1) := by decide +kernel
theorem dX12_lookUp_24 : decode cX12_lookUp 24 = .ok (.lcmp, 1) := by decide +kernel
theorem dX12_lookUp_25 : decode cX12_lookUp 25 = .ok (.ifCond .ne 12, 3) := by decide +kernel
theorem dX12_lookUp_28 : decode cX12_lookUp 28 = .ok (.aload_n 0, 1) := by decide +kernel
theorem dX12_lookUp_29 : decode cX12_lookUp 29 = .ok (.getfield 212, 3) := by decide +kernel
theorem dX12_lookUp_32 : decode cX12_lookUp 32 = .ok (.iload_n 2, 1) := by decide +kernel
theorem dX12_lookUp_33 : decode cX12_lookUp 33 = .ok (.iaload, 1) := by decide +kernel
theorem dX12_lookUp_34 : decode cX12_lookUp 34 = .ok (.goto 14, 3) := by decide +kernel
theorem dX12_lookUp_37 : decode cX12_lookUp 37 = .ok (.aload_n 0, 1) := by decide +kernel
theorem dX12_lookUp_38 : decode cX12_lookUp 38 = .ok (.iload_n 1, 1) := by decide +kernel
theorem dX12_lookUp_39 : decode cX12_lookUp 39 = .ok (.aload_n 0, 1) := by decide +kernel
theorem dX12_lookUp_40 : decode cX12_lookUp 40 = .ok (.getfield 197, 3) := by decide +kernel
theorem dX12_lookUp_43 : decode cX12_lookUp 43 = .ok (.iload_n 2, 1) := by decide +kernel
theorem dX12_lookUp_44 : decode cX12_lookUp 44 = .ok (.laload, 1) := by decide +kernel
theorem dX12_lookUp_45 : decode cX12_lookUp 45 = .ok (.invokevirtual 571, 3) := by decide +kernel
theorem dX12_lookUp_48 : decode cX12_lookUp 48 = .ok (.istore_n 3, 1) := by decide +kernel
theorem dX12_lookUp_49 : decode cX12_lookUp 49 = .ok (.iload_n 3, 1) := by decide +kernel
theorem dX12_lookUp_50 : decode cX12_lookUp 50 = .ok (.ifCond .ge 15, 3) := by decide +kernel
theorem dX12_lookUp_53 : decode cX12_lookUp 53 = .ok (.aload_n 0, 1) := by decide +kernel
theorem dX12_lookUp_54 : decode cX12_lookUp 54 = .ok (.iconst 4, 1) := by decide +kernel
theorem dX12_lookUp_55 : decode cX12_lookUp 55 = .ok (.aload_n 0, 1) := by decide +kernel
theorem dX12_lookUp_56 : decode cX12_lookUp 56 = .ok (.getfield 200, 3) := by decide +kernel
theorem dX12_lookUp_59 : decode cX12_lookUp 59 = .ok (.iload_n 2, 1) := by decide +kernel
theorem dX12_lookUp_60 : decode cX12_lookUp 60 = .ok (.iaload, 1) := by decide +kernel
theorem dX12_lookUp_61 : decode cX12_lookUp 61 = .ok (.invokevirtual 428, 3) := by decide +kernel
theorem dX12_lookUp_64 : decode cX12_lookUp 64 = .ok (.return_, 1) := by decide +kernel
theorem dX12_lookUp_65 : decode cX12_lookUp 65 = .ok (.aload_n 0, 1) := by decide +kernel
theorem dX12_lookUp_66 : decode cX12_lookUp 66 = .ok (.iload_n 1, 1) := by decide +kernel
theorem dX12_lookUp_67 : decode cX12_lookUp 67 = .ok (.iload_n 3, 1) := by decide +kernel
theorem dX12_lookUp_68 : decode cX12_lookUp 68 = .ok (.aload_n 0, 1) := by decide +kernel
theorem dX12_lookUp_69 : decode cX12_lookUp 69 = .ok (.getfield 203, 3) := by decide +kernel
theorem dX12_lookUp_72 : decode cX12_lookUp 72 = .ok (.iload_n 2, 1) := by decide +kernel
theorem dX12_lookUp_73 : decode cX12_lookUp 73 = .ok (.laload, 1) := by decide +kernel
theorem dX12_lookUp_74 : decode cX12_lookUp 74 = .ok (.invokevirtual 578, 3) := by decide +kernel
theorem dX12_lookUp_77 : decode cX12_lookUp 77 = .ok (.istore 4, 2) := by decide +kernel
theorem dX12_lookUp_79 : decode cX12_lookUp 79 = .ok (.bipush 96, 2) := by decide +kernel
theorem dX12_lookUp_81 : decode cX12_lookUp 81 = .ok (.iload_n 1, 1) := by decide +kernel
theorem dX12_lookUp_82 : decode cX12_lookUp 82 = .ok (.imul, 1) := by decide +kernel
theorem dX12_lookUp_83 : decode cX12_lookUp 83 = .ok (.iload 4, 2) := by decide +kernel
theorem dX12_lookUp_85 : decode cX12_lookUp 85 = .ok (.iadd, 1) := by decide +kernel
theorem dX12_lookUp_86 : decode cX12_lookUp 86 = .ok (.istore 5, 2) := by decide +kernel
theorem dX12_lookUp_88 : decode cX12_lookUp 88 = .ok (.iload 4, 2) := by decide +kernel
theorem dX12_lookUp_90 : decode cX12_lookUp 90 = .ok (.ifCond .lt 27, 3) := by decide +kernel
theorem dX12_lookUp_93 : decode cX12_lookUp 93 = .ok (.aload_n 0, 1) := by decide +kernel
theorem dX12_lookUp_94 : decode cX12_lookUp 94 = .ok (.getfield 48, 3) := by decide +kernel
theorem dX12_lookUp_97 : decode cX12_lookUp 97 = .ok (.iload 5, 2) := by decide +kernel
theorem dX12_lookUp_99 : decode cX12_lookUp 99 = .ok (.baload, 1) := by decide +kernel
theorem dX12_lookUp_100 : decode cX12_lookUp 100 = .ok (.ifCond .eq 13, 3) := by decide +kernel
theorem dX12_lookUp_103 : decode cX12_lookUp 103 = .ok (.iload_n 3, 1) := by decide +kernel
theorem dX12_lookUp_104 : decode cX12_lookUp 104 = .ok (.aload_n 0, 1) := by decide +kernel
theorem dX12_lookUp_105 : decode cX12_lookUp 105 = .ok (.getfield 212, 3) := by decide +kernel
theorem dX12_lookUp_108 : decode cX12_lookUp 108 = .ok (.iload_n 2, 1) := by decide +kernel
theorem dX12_lookUp_109 : decode cX12_lookUp 109 = .ok (.iaload, 1) := by decide +kernel
theorem dX12_lookUp_110 : decode cX12_lookUp 110 = .ok (.if_icmp .ne 7, 3) := by decide +kernel
theorem dX12_lookUp_113 : decode cX12_lookUp 113 = .ok (.iconst 1, 1) := by decide +kernel
theorem dX12_lookUp_114 : decode cX12_lookUp 114 = .ok (.goto 4, 3) := by decide +kernel
theorem dX12_lookUp_117 : decode cX12_lookUp 117 = .ok (.iconst 0, 1) := by decide +kernel
theorem dX12_lookUp_118 : decode cX12_lookUp 118 = .ok (.istore 6, 2) := by decide +kernel
theorem dX12_lookUp_120 : decode cX12_lookUp 120 = .ok (.iload 6, 2) := by decide +kernel
theorem dX12_lookUp_122 : decode cX12_lookUp 122 = .ok (.ifCond .eq 13, 3) := by decide +kernel
theorem dX12_lookUp_125 : decode cX12_lookUp 125 = .ok (.aload_n 0, 1) := by decide +kernel
theorem dX12_lookUp_126 : decode cX12_lookUp 126 = .ok (.getfield 45, 3) := by decide +kernel
theorem dX12_lookUp_129 : decode cX12_lookUp 129 = .ok (.iload 5, 2) := by decide +kernel
theorem dX12_lookUp_131 : decode cX12_lookUp 131 = .ok (.iaload, 1) := by decide +kernel
theorem dX12_lookUp_132 : decode cX12_lookUp 132 = .ok (.goto 4, 3) := by decide +kernel
theorem dX12_lookUp_135 : decode cX12_lookUp 135 = .ok (.iconst (-1), 1) := by decide +kernel
theorem dX12_lookUp_136 : decode cX12_lookUp 136 = .ok (.istore 7, 2) := by decide +kernel
theorem dX12_lookUp_138 : decode cX12_lookUp 138 = .ok (.aload_n 0, 1) := by decide +kernel
theorem dX12_lookUp_139 : decode cX12_lookUp 139 = .ok (.getfield 194, 3) := by decide +kernel
theorem dX12_lookUp_142 : decode cX12_lookUp 142 = .ok (.iload_n 2, 1) := by decide +kernel
theorem dX12_lookUp_143 : decode cX12_lookUp 143 = .ok (.iaload, 1) := by decide +kernel
theorem dX12_lookUp_144 : decode cX12_lookUp 144 = .ok (.tableswitch 72 0 3 #[32, 44, 56, 56], 32) := by decide +kernel
theorem dX12_lookUp_176 : decode cX12_lookUp 176 = .ok (.iload 7, 2) := by decide +kernel
theorem dX12_lookUp_178 : decode cX12_lookUp 178 = .ok (.iconst 0, 1) := by decide +kernel
theorem dX12_lookUp_179 : decode cX12_lookUp 179 = .ok (.iconst 2, 1) := by decide +kernel
theorem dX12_lookUp_180 : decode cX12_lookUp 180 = .ok (.invokestatic 381, 3) := by decide +kernel
theorem dX12_lookUp_183 : decode cX12_lookUp 183 = .ok (.istore 6, 2) := by decide +kernel
theorem dX12_lookUp_185 : decode cX12_lookUp 185 = .ok (.goto 60, 3) := by decide +kernel
theorem dX12_lookUp_188 : decode cX12_lookUp 188 = .ok (.iload 7, 2) := by decide +kernel
theorem dX12_lookUp_190 : decode cX12_lookUp 190 = .ok (.iconst 1, 1) := by decide +kernel
theorem dX12_lookUp_191 : decode cX12_lookUp 191 = .ok (.iconst 2, 1) := by decide +kernel
theorem dX12_lookUp_192 : decode cX12_lookUp 192 = .ok (.invokestatic 381, 3) := by decide +kernel
theorem dX12_lookUp_195 : decode cX12_lookUp 195 = .ok (.istore 6, 2) := by decide +kernel
theorem dX12_lookUp_197 : decode cX12_lookUp 197 = .ok (.goto 48, 3) := by decide +kernel
theorem dX12_lookUp_200 : decode cX12_lookUp 200 = .ok (.iload 7, 2) := by decide +kernel
theorem dX12_lookUp_202 : decode cX12_lookUp 202 = .ok (.iconst 3, 1) := by decide +kernel
theorem dX12_lookUp_203 : decode cX12_lookUp 203 = .ok (.if_icmp .ne 7, 3) := by decide +kernel
theorem dX12_lookUp_206 : decode cX12_lookUp 206 = .ok (.iconst 1, 1) := by decide +kernel
theorem dX12_lookUp_207 : decode cX12_lookUp 207 = .ok (.goto 4, 3) := by decide +kernel
theorem dX12_lookUp_210 : decode cX12_lookUp 210 = .ok (.iconst 0, 1) := by decide +kernel
theorem dX12_lookUp_211 : decode cX12_lookUp 211 = .ok (.istore 6, 2) := by decide +kernel
theorem dX12_lookUp_213 : decode cX12_lookUp 213 = .ok (.goto 32, 3) := by decide +kernel
theorem dX12_lookUp_216 : decode cX12_lookUp 216 = .ok (.iload 7, 2) := by decide +kernel
theorem dX12_lookUp_218 : decode cX12_lookUp 218 = .ok (.iconst 4, 1) := by decide +kernel
theorem dX12_lookUp_219 : decode cX12_lookUp 219 = .ok (.if_icmp .ne 23, 3) := by decide +kernel
theorem dX12_lookUp_222 : decode cX12_lookUp 222 = .ok (.aload_n 0, 1) := by decide +kernel
theorem dX12_lookUp_223 : decode cX12_lookUp 223 = .ok (.getfield 52, 3) := by decide +kernel
theorem dX12_lookUp_226 : decode cX12_lookUp 226 = .ok (.iload 5, 2) := by decide +kernel
theorem dX12_lookUp_228 : decode cX12_lookUp 228 = .ok (.iaload, 1) := by decide +kernel
theorem dX12_lookUp_229 : decode cX12_lookUp 229 = .ok (.aload_n 0, 1) := by decide +kernel
theorem dX12_lookUp_230 : decode cX12_lookUp 230 = .ok (.getfield 209, 3) := by decide +kernel
theorem dX12_lookUp_233 : decode cX12_lookUp 233 = .ok (.iload_n 2, 1) := by decide +kernel
theorem dX12_lookUp_234 : decode cX12_lookUp 234 = .ok (.iaload, 1) := by decide +kernel
theorem dX12_lookUp_235 : decode cX12_lookUp 235 = .ok (.if_icmp .ne 7, 3) := by decide +kernel
theorem dX12_lookUp_238 : decode cX12_lookUp 238 = .ok (.iconst 1, 1) := by decide +kernel
theorem dX12_lookUp_239 : decode cX12_lookUp 239 = .ok (.goto 4, 3) := by decide +kernel
theorem dX12_lookUp_242 : decode cX12_lookUp 242 = .ok (.iconst 0, 1) := by decide +kernel
theorem dX12_lookUp_243 : decode cX12_lookUp 243 = .ok (.istore 6, 2) := by decide +kernel
theorem dX12_lookUp_245 : decode cX12_lookUp 245 = .ok (.iload 6, 2) := by decide +kernel
theorem dX12_lookUp_247 : decode cX12_lookUp 247 = .ok (.ifCond .ne 15, 3) := by decide +kernel
theorem dX12_lookUp_250 : decode cX12_lookUp 250 = .ok (.aload_n 0, 1) := by decide +kernel
theorem dX12_lookUp_251 : decode cX12_lookUp 251 = .ok (.iconst 4, 1) := by decide +kernel
theorem dX12_lookUp_252 : decode cX12_lookUp 252 = .ok (.aload_n 0, 1) := by decide +kernel
theorem dX12_lookUp_253 : decode cX12_lookUp 253 = .ok (.getfield 206, 3) := by decide +kernel
theorem dX12_lookUp_256 : decode cX12_lookUp 256 = .ok (.iload_n 2, 1) := by decide +kernel
theorem dX12_lookUp_257 : decode cX12_lookUp 257 = .ok (.iaload, 1) := by decide +kernel
theorem dX12_lookUp_258 : decode cX12_lookUp 258 = .ok (.invokevirtual 428, 3) := by decide +kernel
theorem dX12_lookUp_261 : decode cX12_lookUp 261 = .ok (.return_, 1) := by decide +kernel
theorem dX12_lookUp_262 : decode cX12_lookUp 262 = .ok (.iload 7, 2) := by decide +kernel
theorem dX12_lookUp_264 : decode cX12_lookUp 264 = .ok (.ifCond .ne 7, 3) := by decide +kernel
theorem dX12_lookUp_267 : decode cX12_lookUp 267 = .ok (.iconst 1, 1) := by decide +kernel
theorem dX12_lookUp_268 : decode cX12_lookUp 268 = .ok (.goto 4, 3) := by decide +kernel
theorem dX12_lookUp_271 : decode cX12_lookUp 271 = .ok (.iconst 0, 1) := by decide +kernel
theorem dX12_lookUp_272 : decode cX12_lookUp 272 = .ok (.istore 8, 2) := by decide +kernel
theorem dX12_lookUp_274 : decode cX12_lookUp 274 = .ok (.aload_n 0, 1) := by decide +kernel
theorem dX12_lookUp_275 : decode cX12_lookUp 275 = .ok (.getfield 191, 3) := by decide +kernel
theorem dX12_lookUp_278 : decode cX12_lookUp 278 = .ok (.iload_n 2, 1) := by decide +kernel
theorem dX12_lookUp_279 : decode cX12_lookUp 279 = .ok (.iaload, 1) := by decide +kernel
theorem dX12_lookUp_280 : decode cX12_lookUp 280 = .ok (.istore 9, 2) := by decide +kernel
theorem dX12_lookUp_282 : decode cX12_lookUp 282 = .ok (.aload_n 0, 1) := by decide +kernel
theorem dX12_lookUp_283 : decode cX12_lookUp 283 = .ok (.getfield 176, 3) := by decide +kernel
theorem dX12_lookUp_286 : decode cX12_lookUp 286 = .ok (.iload 9, 2) := by decide +kernel
theorem dX12_lookUp_288 : decode cX12_lookUp 288 = .ok (.iload 8, 2) := by decide +kernel
theorem dX12_lookUp_290 : decode cX12_lookUp 290 = .ok (.ifCond .eq 7, 3) := by decide +kernel
theorem dX12_lookUp_293 : decode cX12_lookUp 293 = .ok (.iconst 0, 1) := by decide +kernel
theorem dX12_lookUp_294 : decode cX12_lookUp 294 = .ok (.goto 10, 3) := by decide +kernel
theorem dX12_lookUp_297 : decode cX12_lookUp 297 = .ok (.aload_n 0, 1) := by decide +kernel
theorem dX12_lookUp_298 : decode cX12_lookUp 298 = .ok (.getfield 176, 3) := by decide +kernel
theorem dX12_lookUp_301 : decode cX12_lookUp 301 = .ok (.iload 9, 2) := by decide +kernel
theorem dX12_lookUp_303 : decode cX12_lookUp 303 = .ok (.baload, 1) := by decide +kernel
theorem dX12_lookUp_304 : decode cX12_lookUp 304 = .ok (.bastore, 1) := by decide +kernel
theorem dX12_lookUp_305 : decode cX12_lookUp 305 = .ok (.aload_n 0, 1) := by decide +kernel
theorem dX12_lookUp_306 : decode cX12_lookUp 306 = .ok (.getfield 179, 3) := by decide +kernel
theorem dX12_lookUp_309 : decode cX12_lookUp 309 = .ok (.iload 9, 2) := by decide +kernel
theorem dX12_lookUp_311 : decode cX12_lookUp 311 = .ok (.iload 8, 2) := by decide +kernel
theorem dX12_lookUp_313 : decode cX12_lookUp 313 = .ok (.ifCond .eq 13, 3) := by decide +kernel
theorem dX12_lookUp_316 : decode cX12_lookUp 316 = .ok (.aload_n 0, 1) := by decide +kernel
theorem dX12_lookUp_317 : decode cX12_lookUp 317 = .ok (.getfield 52, 3) := by decide +kernel
theorem dX12_lookUp_320 : decode cX12_lookUp 320 = .ok (.iload 5, 2) := by decide +kernel
theorem dX12_lookUp_322 : decode cX12_lookUp 322 = .ok (.iaload, 1) := by decide +kernel
theorem dX12_lookUp_323 : decode cX12_lookUp 323 = .ok (.goto 5, 3) := by decide +kernel
theorem dX12_lookUp_326 : decode cX12_lookUp 326 = .ok (.iload 4, 2) := by decide +kernel
theorem dX12_lookUp_328 : decode cX12_lookUp 328 = .ok (.iastore, 1) := by decide +kernel
theorem dX12_lookUp_329 : decode cX12_lookUp 329 = .ok (.iinc 2 1, 3) := by decide +kernel
theorem dX12_lookUp_332 : decode cX12_lookUp 332 = .ok (.goto (-330), 3) := by decide +kernel
theorem dX12_lookUp_335 : decode cX12_lookUp 335 = .ok (.return_, 1) := by decide +kernel
theorem dX12_parcel_0 : decode cX12_parcel 0 = .ok (.aload_n 0, 1) := by decide +kernel
theorem dX12_parcel_1 : decode cX12_parcel 1 = .ok (.getfield 582, 3) := by decide +kernel
theorem dX12_parcel_4 : decode cX12_parcel 4 = .ok (.bipush 8, 2) := by decide +kernel
theorem dX12_parcel_6 : decode cX12_parcel 6 = .ok (.if_icmp .ne 6, 3) := by decide +kernel
theorem dX12_parcel_9 : decode cX12_parcel 9 = .ok (.bipush (-3), 2) := by decide +kernel
theorem dX12_parcel_11 : decode cX12_parcel 11 = .ok (.ireturn, 1) := by decide +kernel
theorem dX12_parcel_12 : decode cX12_parcel 12 = .ok (.aload_n 0, 1) := by decide +kernel
theorem dX12_parcel_13 : decode cX12_parcel 13 = .ok (.getfield 582, 3) := by decide +kernel
theorem dX12_parcel_16 : decode cX12_parcel 16 = .ok (.istore_n 1, 1) := by decide +kernel
theorem dX12_parcel_17 : decode cX12_parcel 17 = .ok (.aload_n 0, 1) := by decide +kernel
theorem dX12_parcel_18 : decode cX12_parcel 18 = .ok (.getfield 13, 3) := by decide +kernel
theorem dX12_parcel_21 : decode cX12_parcel 21 = .ok (.iload_n 1, 1) := by decide +kernel
theorem dX12_parcel_22 : decode cX12_parcel 22 = .ok (.iconst 0, 1) := by decide +kernel
theorem dX12_parcel_23 : decode cX12_parcel 23 = .ok (.iastore, 1) := by decide +kernel
theorem dX12_parcel_24 : decode cX12_parcel 24 = .ok (.aload_n 0, 1) := by decide +kernel
theorem dX12_parcel_25 : decode cX12_parcel 25 = .ok (.getfield 36, 3) := by decide +kernel
theorem dX12_parcel_28 : decode cX12_parcel 28 = .ok (.iload_n 1, 1) := by decide +kernel
theorem dX12_parcel_29 : decode cX12_parcel 29 = .ok (.iconst 0, 1) := by decide +kernel
theorem dX12_parcel_30 : decode cX12_parcel 30 = .ok (.iastore, 1) := by decide +kernel
theorem dX12_parcel_31 : decode cX12_parcel 31 = .ok (.aload_n 0, 1) := by decide +kernel
theorem dX12_parcel_32 : decode cX12_parcel 32 = .ok (.getfield 58, 3) := by decide +kernel
theorem dX12_parcel_35 : decode cX12_parcel 35 = .ok (.iload_n 1, 1) := by decide +kernel
theorem dX12_parcel_36 : decode cX12_parcel 36 = .ok (.iconst 0, 1) := by decide +kernel
theorem dX12_parcel_37 : decode cX12_parcel 37 = .ok (.iastore, 1) := by decide +kernel
theorem dX12_parcel_38 : decode cX12_parcel 38 = .ok (.aload_n 0, 1) := by decide +kernel
theorem dX12_parcel_39 : decode cX12_parcel 39 = .ok (.getfield 82, 3) := by decide +kernel
theorem dX12_parcel_42 : decode cX12_parcel 42 = .ok (.iload_n 1, 1) := by decide +kernel
theorem dX12_parcel_43 : decode cX12_parcel 43 = .ok (.iconst 0, 1) := by decide +kernel
theorem dX12_parcel_44 : decode cX12_parcel 44 = .ok (.iastore, 1) := by decide +kernel
theorem dX12_parcel_45 : decode cX12_parcel 45 = .ok (.aload_n 0, 1) := by decide +kernel
theorem dX12_parcel_46 : decode cX12_parcel 46 = .ok (.iconst 0, 1) := by decide +kernel
theorem dX12_parcel_47 : decode cX12_parcel 47 = .ok (.putfield 439, 3) := by decide +kernel
theorem dX12_parcel_50 : decode cX12_parcel 50 = .ok (.aload_n 0, 1) := by decide +kernel
theorem dX12_parcel_51 : decode cX12_parcel 51 = .ok (.iconst 0, 1) := by decide +kernel
theorem dX12_parcel_52 : decode cX12_parcel 52 = .ok (.putfield 462, 3) := by decide +kernel
theorem dX12_parcel_55 : decode cX12_parcel 55 = .ok (.aload_n 0, 1) := by decide +kernel
theorem dX12_parcel_56 : decode cX12_parcel 56 = .ok (.iconst 0, 1) := by decide +kernel
theorem dX12_parcel_57 : decode cX12_parcel 57 = .ok (.putfield 395, 3) := by decide +kernel
theorem dX12_parcel_60 : decode cX12_parcel 60 = .ok (.aload_n 0, 1) := by decide +kernel
theorem dX12_parcel_61 : decode cX12_parcel 61 = .ok (.iconst 0, 1) := by decide +kernel
theorem dX12_parcel_62 : decode cX12_parcel 62 = .ok (.putfield 398, 3) := by decide +kernel
theorem dX12_parcel_65 : decode cX12_parcel 65 = .ok (.aload_n 0, 1) := by decide +kernel
theorem dX12_parcel_66 : decode cX12_parcel 66 = .ok (.invokevirtual 436, 3) := by decide +kernel
theorem dX12_parcel_69 : decode cX12_parcel 69 = .ok (.iconst 1, 1) := by decide +kernel
theorem dX12_parcel_70 : decode cX12_parcel 70 = .ok (.istore_n 2, 1) := by decide +kernel
theorem dX12_parcel_71 : decode cX12_parcel 71 = .ok (.iload_n 2, 1) := by decide +kernel
theorem dX12_parcel_72 : decode cX12_parcel 72 = .ok (.ifCond .eq 60, 3) := by decide +kernel
theorem dX12_parcel_75 : decode cX12_parcel 75 = .ok (.aload_n 0, 1) := by decide +kernel
theorem dX12_parcel_76 : decode cX12_parcel 76 = .ok (.getfield 395, 3) := by decide +kernel
theorem dX12_parcel_79 : decode cX12_parcel 79 = .ok (.ifCond .ne 30, 3) := by decide +kernel
theorem dX12_parcel_82 : decode cX12_parcel 82 = .ok (.aload_n 0, 1) := by decide +kernel
theorem dX12_parcel_83 : decode cX12_parcel 83 = .ok (.aload_n 0, 1) := by decide +kernel
theorem dX12_parcel_84 : decode cX12_parcel 84 = .ok (.getfield 408, 3) := by decide +kernel
theorem dX12_parcel_87 : decode cX12_parcel 87 = .ok (.sipush 401, 3) := by decide +kernel
theorem dX12_parcel_90 : decode cX12_parcel 90 = .ok (.if_icmp .ne 7, 3) := by decide +kernel
theorem dX12_parcel_93 : decode cX12_parcel 93 = .ok (.iconst 1, 1) := by decide +kernel
theorem dX12_parcel_94 : decode cX12_parcel 94 = .ok (.goto 4, 3) := by decide +kernel
theorem dX12_parcel_97 : decode cX12_parcel 97 = .ok (.iconst 0, 1) := by decide +kernel
theorem dX12_parcel_98 : decode cX12_parcel 98 = .ok (.invokevirtual 432, 3) := by decide +kernel
theorem dX12_parcel_101 : decode cX12_parcel 101 = .ok (.ifCond .eq 8, 3) := by decide +kernel
theorem dX12_parcel_104 : decode cX12_parcel 104 = .ok (.aload_n 0, 1) := by decide +kernel
theorem dX12_parcel_105 : decode cX12_parcel 105 = .ok (.iload_n 1, 1) := by decide +kernel
theorem dX12_parcel_106 : decode cX12_parcel 106 = .ok (.invokevirtual 585, 3) := by decide +kernel
theorem dX12_parcel_109 : decode cX12_parcel 109 = .ok (.aload_n 0, 1) := by decide +kernel
theorem dX12_parcel_110 : decode cX12_parcel 110 = .ok (.getfield 395, 3) := by decide +kernel
theorem dX12_parcel_113 : decode cX12_parcel 113 = .ok (.ifCond .ne 14, 3) := by decide +kernel
theorem dX12_parcel_116 : decode cX12_parcel 116 = .ok (.aload_n 0, 1) := by decide +kernel
theorem dX12_parcel_117 : decode cX12_parcel 117 = .ok (.getfield 408, 3) := by decide +kernel
theorem dX12_parcel_120 : decode cX12_parcel 120 = .ok (.ifCond .eq 7, 3) := by decide +kernel
theorem dX12_parcel_123 : decode cX12_parcel 123 = .ok (.iconst 1, 1) := by decide +kernel
theorem dX12_parcel_124 : decode cX12_parcel 124 = .ok (.goto 4, 3) := by decide +kernel
theorem dX12_parcel_127 : decode cX12_parcel 127 = .ok (.iconst 0, 1) := by decide +kernel
theorem dX12_parcel_128 : decode cX12_parcel 128 = .ok (.istore_n 2, 1) := by decide +kernel
theorem dX12_parcel_129 : decode cX12_parcel 129 = .ok (.goto (-58), 3) := by decide +kernel
theorem dX12_parcel_132 : decode cX12_parcel 132 = .ok (.aload_n 0, 1) := by decide +kernel
theorem dX12_parcel_133 : decode cX12_parcel 133 = .ok (.getfield 395, 3) := by decide +kernel
theorem dX12_parcel_136 : decode cX12_parcel 136 = .ok (.ifCond .ne 8, 3) := by decide +kernel
theorem dX12_parcel_139 : decode cX12_parcel 139 = .ok (.aload_n 0, 1) := by decide +kernel
theorem dX12_parcel_140 : decode cX12_parcel 140 = .ok (.iload_n 1, 1) := by decide +kernel
theorem dX12_parcel_141 : decode cX12_parcel 141 = .ok (.invokevirtual 588, 3) := by decide +kernel
theorem dX12_parcel_144 : decode cX12_parcel 144 = .ok (.aload_n 0, 1) := by decide +kernel
theorem dX12_parcel_145 : decode cX12_parcel 145 = .ok (.iconst 0, 1) := by decide +kernel
theorem dX12_parcel_146 : decode cX12_parcel 146 = .ok (.putfield 378, 3) := by decide +kernel
theorem dX12_parcel_149 : decode cX12_parcel 149 = .ok (.aload_n 0, 1) := by decide +kernel
theorem dX12_parcel_150 : decode cX12_parcel 150 = .ok (.aload_n 0, 1) := by decide +kernel
theorem dX12_parcel_151 : decode cX12_parcel 151 = .ok (.getfield 395, 3) := by decide +kernel
theorem dX12_parcel_154 : decode cX12_parcel 154 = .ok (.putfield 591, 3) := by decide +kernel
theorem dX12_parcel_157 : decode cX12_parcel 157 = .ok (.aload_n 0, 1) := by decide +kernel
theorem dX12_parcel_158 : decode cX12_parcel 158 = .ok (.getfield 395, 3) := by decide +kernel
theorem dX12_parcel_161 : decode cX12_parcel 161 = .ok (.ifCond .eq 11, 3) := by decide +kernel
theorem dX12_parcel_164 : decode cX12_parcel 164 = .ok (.bipush (-10), 2) := by decide +kernel
theorem dX12_parcel_166 : decode cX12_parcel 166 = .ok (.aload_n 0, 1) := by decide +kernel
theorem dX12_parcel_167 : decode cX12_parcel 167 = .ok (.getfield 425, 3) := by decide +kernel
theorem dX12_parcel_170 : decode cX12_parcel 170 = .ok (.isub, 1) := by decide +kernel
theorem dX12_parcel_171 : decode cX12_parcel 171 = .ok (.ireturn, 1) := by decide +kernel
theorem dX12_parcel_172 : decode cX12_parcel 172 = .ok (.aload_n 0, 1) := by decide +kernel
theorem dX12_parcel_173 : decode cX12_parcel 173 = .ok (.iload_n 1, 1) := by decide +kernel
theorem dX12_parcel_174 : decode cX12_parcel 174 = .ok (.invokevirtual 594, 3) := by decide +kernel
theorem dX12_parcel_177 : decode cX12_parcel 177 = .ok (.aload_n 0, 1) := by decide +kernel
theorem dX12_parcel_178 : decode cX12_parcel 178 = .ok (.dup, 1) := by decide +kernel
theorem dX12_parcel_179 : decode cX12_parcel 179 = .ok (.getfield 582, 3) := by decide +kernel
theorem dX12_parcel_182 : decode cX12_parcel 182 = .ok (.iconst 1, 1) := by decide +kernel
theorem dX12_parcel_183 : decode cX12_parcel 183 = .ok (.iadd, 1) := by decide +kernel
theorem dX12_parcel_184 : decode cX12_parcel 184 = .ok (.putfield 582, 3) := by decide +kernel
theorem dX12_parcel_187 : decode cX12_parcel 187 = .ok (.iload_n 1, 1) := by decide +kernel
theorem dX12_parcel_188 : decode cX12_parcel 188 = .ok (.ireturn, 1) := by decide +kernel
theorem dX12_keep_0 : decode cX12_keep 0 = .ok (.aload_n 0, 1) := by decide +kernel
theorem dX12_keep_1 : decode cX12_keep 1 = .ok (.getfield 94, 3) := by decide +kernel
theorem dX12_keep_4 : decode cX12_keep 4 = .ok (.iload_n 1, 1) := by decide +kernel
theorem dX12_keep_5 : decode cX12_keep 5 = .ok (.aload_n 0, 1) := by decide +kernel
theorem dX12_keep_6 : decode cX12_keep 6 = .ok (.getfield 439, 3) := by decide +kernel
theorem dX12_keep_9 : decode cX12_keep 9 = .ok (.iastore, 1) := by decide +kernel
theorem dX12_keep_10 : decode cX12_keep 10 = .ok (.aload_n 0, 1) := by decide +kernel
theorem dX12_keep_11 : decode cX12_keep 11 = .ok (.getfield 106, 3) := by decide +kernel
theorem dX12_keep_14 : decode cX12_keep 14 = .ok (.iload_n 1, 1) := by decide +kernel
theorem dX12_keep_15 : decode cX12_keep 15 = .ok (.iconst 0, 1) := by decide +kernel
theorem dX12_keep_16 : decode cX12_keep 16 = .ok (.iastore, 1) := by decide +kernel
theorem dX12_keep_17 : decode cX12_keep 17 = .ok (.iconst 0, 1) := by decide +kernel
theorem dX12_keep_18 : decode cX12_keep 18 = .ok (.istore_n 2, 1) := by decide +kernel
theorem dX12_keep_19 : decode cX12_keep 19 = .ok (.iload_n 2, 1) := by decide +kernel
theorem dX12_keep_20 : decode cX12_keep 20 = .ok (.aload_n 0, 1) := by decide +kernel
theorem dX12_keep_21 : decode cX12_keep 21 = .ok (.getfield 439, 3) := by decide +kernel
theorem dX12_keep_24 : decode cX12_keep 24 = .ok (.if_icmp .ge 113, 3) := by decide +kernel
theorem dX12_keep_27 : decode cX12_keep 27 = .ok (.aload_n 0, 1) := by decide +kernel
theorem dX12_keep_28 : decode cX12_keep 28 = .ok (.getfield 97, 3) := by decide +kernel
theorem dX12_keep_31 : decode cX12_keep 31 = .ok (.sipush 1000, 3) := by decide +kernel
theorem dX12_keep_34 : decode cX12_keep 34 = .ok (.iload_n 1, 1) := by decide +kernel
theorem dX12_keep_35 : decode cX12_keep 35 = .ok (.imul, 1) := by decide +kernel
theorem dX12_keep_36 : decode cX12_keep 36 = .ok (.iload_n 2, 1) := by decide +kernel
theorem dX12_keep_37 : decode cX12_keep 37 = .ok (.iadd, 1) := by decide +kernel
theorem dX12_keep_38 : decode cX12_keep 38 = .ok (.aload_n 0, 1) := by decide +kernel
theorem dX12_keep_39 : decode cX12_keep 39 = .ok (.getfield 176, 3) := by decide +kernel
theorem dX12_keep_42 : decode cX12_keep 42 = .ok (.iload_n 2, 1) := by decide +kernel
theorem dX12_keep_43 : decode cX12_keep 43 = .ok (.baload, 1) := by decide +kernel
theorem dX12_keep_44 : decode cX12_keep 44 = .ok (.bastore, 1) := by decide +kernel
theorem dX12_keep_45 : decode cX12_keep 45 = .ok (.aload_n 0, 1) := by decide +kernel
theorem dX12_keep_46 : decode cX12_keep 46 = .ok (.getfield 100, 3) := by decide +kernel
theorem dX12_keep_49 : decode cX12_keep 49 = .ok (.sipush 1000, 3) := by decide +kernel
theorem dX12_keep_52 : decode cX12_keep 52 = .ok (.iload_n 1, 1) := by decide +kernel
theorem dX12_keep_53 : decode cX12_keep 53 = .ok (.imul, 1) := by decide +kernel
theorem dX12_keep_54 : decode cX12_keep 54 = .ok (.iload_n 2, 1) := by decide +kernel
theorem dX12_keep_55 : decode cX12_keep 55 = .ok (.iadd, 1) := by decide +kernel
theorem dX12_keep_56 : decode cX12_keep 56 = .ok (.aload_n 0, 1) := by decide +kernel
theorem dX12_keep_57 : decode cX12_keep 57 = .ok (.getfield 179, 3) := by decide +kernel
theorem dX12_keep_60 : decode cX12_keep 60 = .ok (.iload_n 2, 1) := by decide +kernel
theorem dX12_keep_61 : decode cX12_keep 61 = .ok (.iaload, 1) := by decide +kernel
theorem dX12_keep_62 : decode cX12_keep 62 = .ok (.iastore, 1) := by decide +kernel
theorem dX12_keep_63 : decode cX12_keep 63 = .ok (.aload_n 0, 1) := by decide +kernel
theorem dX12_keep_64 : decode cX12_keep 64 = .ok (.getfield 103, 3) := by decide +kernel
theorem dX12_keep_67 : decode cX12_keep 67 = .ok (.sipush 1000, 3) := by decide +kernel
theorem dX12_keep_70 : decode cX12_keep 70 = .ok (.iload_n 1, 1) := by decide +kernel
theorem dX12_keep_71 : decode cX12_keep 71 = .ok (.imul, 1) := by decide +kernel
theorem dX12_keep_72 : decode cX12_keep 72 = .ok (.iload_n 2, 1) := by decide +kernel
theorem dX12_keep_73 : decode cX12_keep 73 = .ok (.iadd, 1) := by decide +kernel
theorem dX12_keep_74 : decode cX12_keep 74 = .ok (.aload_n 0, 1) := by decide +kernel
theorem dX12_keep_75 : decode cX12_keep 75 = .ok (.getfield 182, 3) := by decide +kernel
theorem dX12_keep_78 : decode cX12_keep 78 = .ok (.iload_n 2, 1) := by decide +kernel
theorem dX12_keep_79 : decode cX12_keep 79 = .ok (.baload, 1) := by decide +kernel
theorem dX12_keep_80 : decode cX12_keep 80 = .ok (.bastore, 1) := by decide +kernel
theorem dX12_keep_81 : decode cX12_keep 81 = .ok (.aload_n 0, 1) := by decide +kernel
theorem dX12_keep_82 : decode cX12_keep 82 = .ok (.getfield 185, 3) := by decide +kernel
theorem dX12_keep_85 : decode cX12_keep 85 = .ok (.iload_n 2, 1) := by decide +kernel
theorem dX12_keep_86 : decode cX12_keep 86 = .ok (.baload, 1) := by decide +kernel
theorem dX12_keep_87 : decode cX12_keep 87 = .ok (.ifCond .eq 44, 3) := by decide +kernel
theorem dX12_keep_90 : decode cX12_keep 90 = .ok (.aload_n 0, 1) := by decide +kernel
theorem dX12_keep_91 : decode cX12_keep 91 = .ok (.getfield 176, 3) := by decide +kernel
theorem dX12_keep_94 : decode cX12_keep 94 = .ok (.iload_n 2, 1) := by decide +kernel
theorem dX12_keep_95 : decode cX12_keep 95 = .ok (.baload, 1) := by decide +kernel
theorem dX12_keep_96 : decode cX12_keep 96 = .ok (.invokestatic 597, 3) := by decide +kernel
theorem dX12_keep_99 : decode cX12_keep 99 = .ok (.ifCond .lt 32, 3) := by decide +kernel
theorem dX12_keep_102 : decode cX12_keep 102 = .ok (.aload_n 0, 1) := by decide +kernel
theorem dX12_keep_103 : decode cX12_keep 103 = .ok (.getfield 109, 3) := by decide +kernel
theorem dX12_keep_106 : decode cX12_keep 106 = .ok (.sipush 1000, 3) := by decide +kernel
theorem dX12_keep_109 : decode cX12_keep 109 = .ok (.iload_n 1, 1) := by decide +kernel
theorem dX12_keep_110 : decode cX12_keep 110 = .ok (.imul, 1) := by decide +kernel
theorem dX12_keep_111 : decode cX12_keep 111 = .ok (.aload_n 0, 1) := by decide +kernel
theorem dX12_keep_112 : decode cX12_keep 112 = .ok (.getfield 106, 3) := by decide +kernel
theorem dX12_keep_115 : decode cX12_keep 115 = .ok (.iload_n 1, 1) := by decide +kernel
theorem dX12_keep_116 : decode cX12_keep 116 = .ok (.iaload, 1) := by decide +kernel
theorem dX12_keep_117 : decode cX12_keep 117 = .ok (.iadd, 1) := by decide +kernel
theorem dX12_keep_118 : decode cX12_keep 118 = .ok (.iload_n 2, 1) := by decide +kernel
theorem dX12_keep_119 : decode cX12_keep 119 = .ok (.i2s, 1) := by decide +kernel
theorem dX12_keep_120 : decode cX12_keep 120 = .ok (.sastore, 1) := by decide +kernel
theorem dX12_keep_121 : decode cX12_keep 121 = .ok (.aload_n 0, 1) := by decide +kernel
theorem dX12_keep_122 : decode cX12_keep 122 = .ok (.getfield 106, 3) := by decide +kernel
theorem dX12_keep_125 : decode cX12_keep 125 = .ok (.iload_n 1, 1) := by decide +kernel
theorem dX12_keep_126 : decode cX12_keep 126 = .ok (.dup2, 1) := by decide +kernel
theorem dX12_keep_127 : decode cX12_keep 127 = .ok (.iaload, 1) := by decide +kernel
theorem dX12_keep_128 : decode cX12_keep 128 = .ok (.iconst 1, 1) := by decide +kernel
theorem dX12_keep_129 : decode cX12_keep 129 = .ok (.iadd, 1) := by decide +kernel
theorem dX12_keep_130 : decode cX12_keep 130 = .ok (.iastore, 1) := by decide +kernel
theorem dX12_keep_131 : decode cX12_keep 131 = .ok (.iinc 2 1, 3) := by decide +kernel
theorem dX12_keep_134 : decode cX12_keep 134 = .ok (.goto (-115), 3) := by decide +kernel
theorem dX12_keep_137 : decode cX12_keep 137 = .ok (.iconst 0, 1) := by decide +kernel
theorem dX12_keep_138 : decode cX12_keep 138 = .ok (.istore_n 2, 1) := by decide +kernel
theorem dX12_keep_139 : decode cX12_keep 139 = .ok (.iload_n 2, 1) := by decide +kernel
theorem dX12_keep_140 : decode cX12_keep 140 = .ok (.bipush 16, 2) := by decide +kernel
theorem dX12_keep_142 : decode cX12_keep 142 = .ok (.if_icmp .ge 21, 3) := by decide +kernel
theorem dX12_keep_145 : decode cX12_keep 145 = .ok (.aload_n 0, 1) := by decide +kernel
theorem dX12_keep_146 : decode cX12_keep 146 = .ok (.getfield 79, 3) := by decide +kernel
theorem dX12_keep_149 : decode cX12_keep 149 = .ok (.bipush 16, 2) := by decide +kernel
theorem dX12_keep_151 : decode cX12_keep 151 = .ok (.iload_n 1, 1) := by decide +kernel
theorem dX12_keep_152 : decode cX12_keep 152 = .ok (.imul, 1) := by decide +kernel
theorem dX12_keep_153 : decode cX12_keep 153 = .ok (.iload_n 2, 1) := by decide +kernel
theorem dX12_keep_154 : decode cX12_keep 154 = .ok (.iadd, 1) := by decide +kernel
theorem dX12_keep_155 : decode cX12_keep 155 = .ok (.iload_n 2, 1) := by decide +kernel
theorem dX12_keep_156 : decode cX12_keep 156 = .ok (.iastore, 1) := by decide +kernel
theorem dX12_keep_157 : decode cX12_keep 157 = .ok (.iinc 2 1, 3) := by decide +kernel
theorem dX12_keep_160 : decode cX12_keep 160 = .ok (.goto (-21), 3) := by decide +kernel
theorem dX12_keep_163 : decode cX12_keep 163 = .ok (.aload_n 0, 1) := by decide +kernel
theorem dX12_keep_164 : decode cX12_keep 164 = .ok (.getfield 264, 3) := by decide +kernel
theorem dX12_keep_167 : decode cX12_keep 167 = .ok (.iload_n 1, 1) := by decide +kernel
theorem dX12_keep_168 : decode cX12_keep 168 = .ok (.iconst 0, 1) := by decide +kernel
theorem dX12_keep_169 : decode cX12_keep 169 = .ok (.bastore, 1) := by decide +kernel
theorem dX12_keep_170 : decode cX12_keep 170 = .ok (.aload_n 0, 1) := by decide +kernel
theorem dX12_keep_171 : decode cX12_keep 171 = .ok (.getfield 315, 3) := by decide +kernel
theorem dX12_keep_174 : decode cX12_keep 174 = .ok (.iload_n 1, 1) := by decide +kernel
theorem dX12_keep_175 : decode cX12_keep 175 = .ok (.iconst 0, 1) := by decide +kernel
theorem dX12_keep_176 : decode cX12_keep 176 = .ok (.bastore, 1) := by decide +kernel
theorem dX12_keep_177 : decode cX12_keep 177 = .ok (.return_, 1) := by decide +kernel
theorem dX12_changed_0 : decode cX12_changed 0 = .ok (.iload_n 0, 1) := by decide +kernel
theorem dX12_changed_1 : decode cX12_changed 1 = .ok (.tableswitch 185 0 29 #[135, 185, 185, 185, 173, 185, 176, 179, 182, 185, 137, 140, 143, 146, 146, 149, 152, 155, 158, 161, 164, 167, 167, 185, 170, 185, 185, 185, 173, 173], 135) := by decide +kernel
theorem dX12_changed_136 : decode cX12_changed 136 = .ok (.iconst 0, 1) := by decide +kernel
theorem dX12_changed_137 : decode cX12_changed 137 = .ok (.ireturn, 1) := by decide +kernel
theorem dX12_changed_138 : decode cX12_changed 138 = .ok (.bipush 11, 2) := by decide +kernel
theorem dX12_changed_140 : decode cX12_changed 140 = .ok (.ireturn, 1) := by decide +kernel
theorem dX12_changed_141 : decode cX12_changed 141 = .ok (.bipush 10, 2) := by decide +kernel
theorem dX12_changed_143 : decode cX12_changed 143 = .ok (.ireturn, 1) := by decide +kernel
theorem dX12_changed_144 : decode cX12_changed 144 = .ok (.bipush 13, 2) := by decide +kernel
theorem dX12_changed_146 : decode cX12_changed 146 = .ok (.ireturn, 1) := by decide +kernel
theorem dX12_changed_147 : decode cX12_changed 147 = .ok (.bipush 12, 2) := by decide +kernel
theorem dX12_changed_149 : decode cX12_changed 149 = .ok (.ireturn, 1) := by decide +kernel
theorem dX12_changed_150 : decode cX12_changed 150 = .ok (.bipush 16, 2) := by decide +kernel
theorem dX12_changed_152 : decode cX12_changed 152 = .ok (.ireturn, 1) := by decide +kernel
theorem dX12_changed_153 : decode cX12_changed 153 = .ok (.bipush 15, 2) := by decide +kernel
theorem dX12_changed_155 : decode cX12_changed 155 = .ok (.ireturn, 1) := by decide +kernel
theorem dX12_changed_156 : decode cX12_changed 156 = .ok (.bipush 18, 2) := by decide +kernel
theorem dX12_changed_158 : decode cX12_changed 158 = .ok (.ireturn, 1) := by decide +kernel
theorem dX12_changed_159 : decode cX12_changed 159 = .ok (.bipush 17, 2) := by decide +kernel
theorem dX12_changed_161 : decode cX12_changed 161 = .ok (.ireturn, 1) := by decide +kernel
theorem dX12_changed_162 : decode cX12_changed 162 = .ok (.bipush 20, 2) := by decide +kernel
theorem dX12_changed_164 : decode cX12_changed 164 = .ok (.ireturn, 1) := by decide +kernel
theorem dX12_changed_165 : decode cX12_changed 165 = .ok (.bipush 19, 2) := by decide +kernel
theorem dX12_changed_167 : decode cX12_changed 167 = .ok (.ireturn, 1) := by decide +kernel
theorem dX12_changed_168 : decode cX12_changed 168 = .ok (.bipush 30, 2) := by decide +kernel
theorem dX12_changed_170 : decode cX12_changed 170 = .ok (.ireturn, 1) := by decide +kernel
theorem dX12_changed_171 : decode cX12_changed 171 = .ok (.bipush 31, 2) := by decide +kernel
theorem dX12_changed_173 : decode cX12_changed 173 = .ok (.ireturn, 1) := by decide +kernel
theorem dX12_changed_174 : decode cX12_changed 174 = .ok (.bipush 9, 2) := by decide +kernel
theorem dX12_changed_176 : decode cX12_changed 176 = .ok (.ireturn, 1) := by decide +kernel
theorem dX12_changed_177 : decode cX12_changed 177 = .ok (.bipush 33, 2) := by decide +kernel
theorem dX12_changed_179 : decode cX12_changed 179 = .ok (.ireturn, 1) := by decide +kernel
theorem dX12_changed_180 : decode cX12_changed 180 = .ok (.bipush 32, 2) := by decide +kernel
theorem dX12_changed_182 : decode cX12_changed 182 = .ok (.ireturn, 1) := by decide +kernel
theorem dX12_changed_183 : decode cX12_changed 183 = .ok (.bipush 34, 2) := by decide +kernel
theorem dX12_changed_185 : decode cX12_changed 185 = .ok (.ireturn, 1) := by decide +kernel
theorem dX12_changed_186 : decode cX12_changed 186 = .ok (.iconst (-1), 1) := by decide +kernel
theorem dX12_changed_187 : decode cX12_changed 187 = .ok (.ireturn, 1) := by decide +kernel
theorem dX12_fault_0 : decode cX12_fault 0 = .ok (.aload_n 0, 1) := by decide +kernel
theorem dX12_fault_1 : decode cX12_fault 1 = .ok (.getfield 591, 3) := by decide +kernel
theorem dX12_fault_4 : decode cX12_fault 4 = .ok (.ireturn, 1) := by decide +kernel
theorem dX12_machine_0 : decode cX12_machine 0 = .ok (.aload_n 0, 1) := by decide +kernel
theorem dX12_machine_1 : decode cX12_machine 1 = .ok (.iload_n 1, 1) := by decide +kernel
theorem dX12_machine_2 : decode cX12_machine 2 = .ok (.putfield 600, 3) := by decide +kernel
theorem dX12_machine_5 : decode cX12_machine 5 = .ok (.aload_n 0, 1) := by decide +kernel
theorem dX12_machine_6 : decode cX12_machine 6 = .ok (.iload_n 2, 1) := by decide +kernel
theorem dX12_machine_7 : decode cX12_machine 7 = .ok (.putfield 603, 3) := by decide +kernel
theorem dX12_machine_10 : decode cX12_machine 10 = .ok (.iconst 0, 1) := by decide +kernel
theorem dX12_machine_11 : decode cX12_machine 11 = .ok (.istore_n 3, 1) := by decide +kernel
theorem dX12_machine_12 : decode cX12_machine 12 = .ok (.iload_n 3, 1) := by decide +kernel
theorem dX12_machine_13 : decode cX12_machine 13 = .ok (.aload_n 0, 1) := by decide +kernel
theorem dX12_machine_14 : decode cX12_machine 14 = .ok (.getfield 13, 3) := by decide +kernel
theorem dX12_machine_17 : decode cX12_machine 17 = .ok (.iload_n 1, 1) := by decide +kernel
theorem dX12_machine_18 : decode cX12_machine 18 = .ok (.iaload, 1) := by decide +kernel
theorem dX12_machine_19 : decode cX12_machine 19 = .ok (.if_icmp .ge 39, 3) := by decide +kernel
theorem dX12_machine_22 : decode cX12_machine 22 = .ok (.aload_n 0, 1) := by decide +kernel
theorem dX12_machine_23 : decode cX12_machine 23 = .ok (.getfield 218, 3) := by decide +kernel
theorem dX12_machine_26 : decode cX12_machine 26 = .ok (.iload_n 3, 1) := by decide +kernel
theorem dX12_machine_27 : decode cX12_machine 27 = .ok (.iload_n 2, 1) := by decide +kernel
theorem dX12_machine_28 : decode cX12_machine 28 = .ok (.ifCond .ge 7, 3) := by decide +kernel
theorem dX12_machine_31 : decode cX12_machine 31 = .ok (.iconst (-1), 1) := by decide +kernel
theorem dX12_machine_32 : decode cX12_machine 32 = .ok (.goto 19, 3) := by decide +kernel
theorem dX12_machine_35 : decode cX12_machine 35 = .ok (.aload_n 0, 1) := by decide +kernel
theorem dX12_machine_36 : decode cX12_machine 36 = .ok (.iload_n 2, 1) := by decide +kernel
theorem dX12_machine_37 : decode cX12_machine 37 = .ok (.aload_n 0, 1) := by decide +kernel
theorem dX12_machine_38 : decode cX12_machine 38 = .ok (.getfield 17, 3) := by decide +kernel
theorem dX12_machine_41 : decode cX12_machine 41 = .ok (.bipush 8, 2) := by decide +kernel
theorem dX12_machine_43 : decode cX12_machine 43 = .ok (.iload_n 1, 1) := by decide +kernel
theorem dX12_machine_44 : decode cX12_machine 44 = .ok (.imul, 1) := by decide +kernel
theorem dX12_machine_45 : decode cX12_machine 45 = .ok (.iload_n 3, 1) := by decide +kernel
theorem dX12_machine_46 : decode cX12_machine 46 = .ok (.iadd, 1) := by decide +kernel
theorem dX12_machine_47 : decode cX12_machine 47 = .ok (.laload, 1) := by decide +kernel
theorem dX12_machine_48 : decode cX12_machine 48 = .ok (.invokevirtual 571, 3) := by decide +kernel
theorem dX12_machine_51 : decode cX12_machine 51 = .ok (.iastore, 1) := by decide +kernel
theorem dX12_machine_52 : decode cX12_machine 52 = .ok (.iinc 3 1, 3) := by decide +kernel
theorem dX12_machine_55 : decode cX12_machine 55 = .ok (.goto (-43), 3) := by decide +kernel
theorem dX12_machine_58 : decode cX12_machine 58 = .ok (.iconst 0, 1) := by decide +kernel
theorem dX12_machine_59 : decode cX12_machine 59 = .ok (.istore_n 3, 1) := by decide +kernel
theorem dX12_machine_60 : decode cX12_machine 60 = .ok (.iload_n 3, 1) := by decide +kernel
theorem dX12_machine_61 : decode cX12_machine 61 = .ok (.aload_n 0, 1) := by decide +kernel
theorem dX12_machine_62 : decode cX12_machine 62 = .ok (.getfield 36, 3) := by decide +kernel
theorem dX12_machine_65 : decode cX12_machine 65 = .ok (.iload_n 1, 1) := by decide +kernel
theorem dX12_machine_66 : decode cX12_machine 66 = .ok (.iaload, 1) := by decide +kernel
theorem dX12_machine_67 : decode cX12_machine 67 = .ok (.if_icmp .ge 45, 3) := by decide +kernel
theorem dX12_machine_70 : decode cX12_machine 70 = .ok (.aload_n 0, 1) := by decide +kernel
theorem dX12_machine_71 : decode cX12_machine 71 = .ok (.getfield 224, 3) := by decide +kernel
theorem dX12_machine_74 : decode cX12_machine 74 = .ok (.iload_n 3, 1) := by decide +kernel
theorem dX12_machine_75 : decode cX12_machine 75 = .ok (.aload_n 0, 1) := by decide +kernel
theorem dX12_machine_76 : decode cX12_machine 76 = .ok (.getfield 45, 3) := by decide +kernel
theorem dX12_machine_79 : decode cX12_machine 79 = .ok (.bipush 96, 2) := by decide +kernel
theorem dX12_machine_81 : decode cX12_machine 81 = .ok (.iload_n 1, 1) := by decide +kernel
theorem dX12_machine_82 : decode cX12_machine 82 = .ok (.imul, 1) := by decide +kernel
theorem dX12_machine_83 : decode cX12_machine 83 = .ok (.iload_n 3, 1) := by decide +kernel
theorem dX12_machine_84 : decode cX12_machine 84 = .ok (.iadd, 1) := by decide +kernel
theorem dX12_machine_85 : decode cX12_machine 85 = .ok (.iaload, 1) := by decide +kernel
theorem dX12_machine_86 : decode cX12_machine 86 = .ok (.iconst 2, 1) := by decide +kernel
theorem dX12_machine_87 : decode cX12_machine 87 = .ok (.if_icmp .ne 17, 3) := by decide +kernel
theorem dX12_machine_90 : decode cX12_machine 90 = .ok (.aload_n 0, 1) := by decide +kernel
theorem dX12_machine_91 : decode cX12_machine 91 = .ok (.getfield 52, 3) := by decide +kernel
theorem dX12_machine_94 : decode cX12_machine 94 = .ok (.bipush 96, 2) := by decide +kernel
theorem dX12_machine_96 : decode cX12_machine 96 = .ok (.iload_n 1, 1) := by decide +kernel
theorem dX12_machine_97 : decode cX12_machine 97 = .ok (.imul, 1) := by decide +kernel
theorem dX12_machine_98 : decode cX12_machine 98 = .ok (.iload_n 3, 1) := by decide +kernel
theorem dX12_machine_99 : decode cX12_machine 99 = .ok (.iadd, 1) := by decide +kernel
theorem dX12_machine_100 : decode cX12_machine 100 = .ok (.iaload, 1) := by decide +kernel
theorem dX12_machine_101 : decode cX12_machine 101 = .ok (.goto 4, 3) := by decide +kernel
theorem dX12_machine_104 : decode cX12_machine 104 = .ok (.iconst 0, 1) := by decide +kernel
theorem dX12_machine_105 : decode cX12_machine 105 = .ok (.iastore, 1) := by decide +kernel
theorem dX12_machine_106 : decode cX12_machine 106 = .ok (.iinc 3 1, 3) := by decide +kernel
theorem dX12_machine_109 : decode cX12_machine 109 = .ok (.goto (-49), 3) := by decide +kernel
theorem dX12_machine_112 : decode cX12_machine 112 = .ok (.iconst 0, 1) := by decide +kernel
theorem dX12_machine_113 : decode cX12_machine 113 = .ok (.istore_n 3, 1) := by decide +kernel
theorem dX12_machine_114 : decode cX12_machine 114 = .ok (.iload_n 2, 1) := by decide +kernel
theorem dX12_machine_115 : decode cX12_machine 115 = .ok (.ifCond .lt 58, 3) := by decide +kernel
theorem dX12_machine_118 : decode cX12_machine 118 = .ok (.iload_n 3, 1) := by decide +kernel
theorem dX12_machine_119 : decode cX12_machine 119 = .ok (.aload_n 0, 1) := by decide +kernel
theorem dX12_machine_120 : decode cX12_machine 120 = .ok (.getfield 36, 3) := by decide +kernel
theorem dX12_machine_123 : decode cX12_machine 123 = .ok (.iload_n 2, 1) := by decide +kernel
theorem dX12_machine_124 : decode cX12_machine 124 = .ok (.iaload, 1) := by decide +kernel
theorem dX12_machine_125 : decode cX12_machine 125 = .ok (.if_icmp .ge 48, 3) := by decide +kernel
theorem dX12_machine_128 : decode cX12_machine 128 = .ok (.aload_n 0, 1) := by decide +kernel
theorem dX12_machine_129 : decode cX12_machine 129 = .ok (.getfield 224, 3) := by decide +kernel
theorem dX12_machine_132 : decode cX12_machine 132 = .ok (.bipush 96, 2) := by decide +kernel
theorem dX12_machine_134 : decode cX12_machine 134 = .ok (.iload_n 3, 1) := by decide +kernel
theorem dX12_machine_135 : decode cX12_machine 135 = .ok (.iadd, 1) := by decide +kernel
theorem dX12_machine_136 : decode cX12_machine 136 = .ok (.aload_n 0, 1) := by decide +kernel
theorem dX12_machine_137 : decode cX12_machine 137 = .ok (.getfield 45, 3) := by decide +kernel
theorem dX12_machine_140 : decode cX12_machine 140 = .ok (.bipush 96, 2) := by decide +kernel
theorem dX12_machine_142 : decode cX12_machine 142 = .ok (.iload_n 2, 1) := by decide +kernel
theorem dX12_machine_143 : decode cX12_machine 143 = .ok (.imul, 1) := by decide +kernel
theorem dX12_machine_144 : decode cX12_machine 144 = .ok (.iload_n 3, 1) := by decide +kernel
theorem dX12_machine_145 : decode cX12_machine 145 = .ok (.iadd, 1) := by decide +kernel
theorem dX12_machine_146 : decode cX12_machine 146 = .ok (.iaload, 1) := by decide +kernel
theorem dX12_machine_147 : decode cX12_machine 147 = .ok (.iconst 2, 1) := by decide +kernel
theorem dX12_machine_148 : decode cX12_machine 148 = .ok (.if_icmp .ne 17, 3) := by decide +kernel
theorem dX12_machine_151 : decode cX12_machine 151 = .ok (.aload_n 0, 1) := by decide +kernel
theorem dX12_machine_152 : decode cX12_machine 152 = .ok (.getfield 52, 3) := by decide +kernel
theorem dX12_machine_155 : decode cX12_machine 155 = .ok (.bipush 96, 2) := by decide +kernel
theorem dX12_machine_157 : decode cX12_machine 157 = .ok (.iload_n 2, 1) := by decide +kernel
theorem dX12_machine_158 : decode cX12_machine 158 = .ok (.imul, 1) := by decide +kernel
theorem dX12_machine_159 : decode cX12_machine 159 = .ok (.iload_n 3, 1) := by decide +kernel
theorem dX12_machine_160 : decode cX12_machine 160 = .ok (.iadd, 1) := by decide +kernel
theorem dX12_machine_161 : decode cX12_machine 161 = .ok (.iaload, 1) := by decide +kernel
theorem dX12_machine_162 : decode cX12_machine 162 = .ok (.goto 4, 3) := by decide +kernel
theorem dX12_machine_165 : decode cX12_machine 165 = .ok (.iconst 0, 1) := by decide +kernel
theorem dX12_machine_166 : decode cX12_machine 166 = .ok (.iastore, 1) := by decide +kernel
theorem dX12_machine_167 : decode cX12_machine 167 = .ok (.iinc 3 1, 3) := by decide +kernel
theorem dX12_machine_170 : decode cX12_machine 170 = .ok (.goto (-56), 3) := by decide +kernel
theorem dX12_machine_173 : decode cX12_machine 173 = .ok (.return_, 1) := by decide +kernel
theorem dX12_rowOf_0 : decode cX12_rowOf 0 = .ok (.iload_n 1, 1) := by decide +kernel
theorem dX12_rowOf_1 : decode cX12_rowOf 1 = .ok (.bipush 96, 2) := by decide +kernel
theorem dX12_rowOf_3 : decode cX12_rowOf 3 = .ok (.if_icmp .ge 15, 3) := by decide +kernel
theorem dX12_rowOf_6 : decode cX12_rowOf 6 = .ok (.bipush 96, 2) := by decide +kernel
theorem dX12_rowOf_8 : decode cX12_rowOf 8 = .ok (.aload_n 0, 1) := by decide +kernel
theorem dX12_rowOf_9 : decode cX12_rowOf 9 = .ok (.getfield 600, 3) := by decide +kernel
theorem dX12_rowOf_12 : decode cX12_rowOf 12 = .ok (.imul, 1) := by decide +kernel
theorem dX12_rowOf_13 : decode cX12_rowOf 13 = .ok (.iload_n 1, 1) := by decide +kernel
theorem dX12_rowOf_14 : decode cX12_rowOf 14 = .ok (.iadd, 1) := by decide +kernel
theorem dX12_rowOf_15 : decode cX12_rowOf 15 = .ok (.goto 14, 3) := by decide +kernel
theorem dX12_rowOf_18 : decode cX12_rowOf 18 = .ok (.bipush 96, 2) := by decide +kernel
theorem dX12_rowOf_20 : decode cX12_rowOf 20 = .ok (.aload_n 0, 1) := by decide +kernel
theorem dX12_rowOf_21 : decode cX12_rowOf 21 = .ok (.getfield 603, 3) := by decide +kernel
theorem dX12_rowOf_24 : decode cX12_rowOf 24 = .ok (.iconst 1, 1) := by decide +kernel
theorem dX12_rowOf_25 : decode cX12_rowOf 25 = .ok (.isub, 1) := by decide +kernel
theorem dX12_rowOf_26 : decode cX12_rowOf 26 = .ok (.imul, 1) := by decide +kernel
theorem dX12_rowOf_27 : decode cX12_rowOf 27 = .ok (.iload_n 1, 1) := by decide +kernel
theorem dX12_rowOf_28 : decode cX12_rowOf 28 = .ok (.iadd, 1) := by decide +kernel
theorem dX12_rowOf_29 : decode cX12_rowOf 29 = .ok (.ireturn, 1) := by decide +kernel
theorem dX12_lookedUp_0 : decode cX12_lookedUp 0 = .ok (.bipush 96, 2) := by decide +kernel
theorem dX12_lookedUp_2 : decode cX12_lookedUp 2 = .ok (.iload_n 1, 1) := by decide +kernel
theorem dX12_lookedUp_3 : decode cX12_lookedUp 3 = .ok (.imul, 1) := by decide +kernel
theorem dX12_lookedUp_4 : decode cX12_lookedUp 4 = .ok (.iload_n 2, 1) := by decide +kernel
theorem dX12_lookedUp_5 : decode cX12_lookedUp 5 = .ok (.iadd, 1) := by decide +kernel
theorem dX12_lookedUp_6 : decode cX12_lookedUp 6 = .ok (.istore 5, 2) := by decide +kernel
theorem dX12_lookedUp_8 : decode cX12_lookedUp 8 = .ok (.aload_n 0, 1) := by decide +kernel
theorem dX12_lookedUp_9 : decode cX12_lookedUp 9 = .ok (.iload_n 3, 1) := by decide +kernel
theorem dX12_lookedUp_10 : decode cX12_lookedUp 10 = .ok (.iload 4, 2) := by decide +kernel
theorem dX12_lookedUp_12 : decode cX12_lookedUp 12 = .ok (.aload_n 0, 1) := by decide +kernel
theorem dX12_lookedUp_13 : decode cX12_lookedUp 13 = .ok (.getfield 39, 3) := by decide +kernel
theorem dX12_lookedUp_16 : decode cX12_lookedUp 16 = .ok (.iload 5, 2) := by decide +kernel
theorem dX12_lookedUp_18 : decode cX12_lookedUp 18 = .ok (.laload, 1) := by decide +kernel
theorem dX12_lookedUp_19 : decode cX12_lookedUp 19 = .ok (.invokevirtual 578, 3) := by decide +kernel
theorem dX12_lookedUp_22 : decode cX12_lookedUp 22 = .ok (.istore 6, 2) := by decide +kernel
theorem dX12_lookedUp_24 : decode cX12_lookedUp 24 = .ok (.iload 6, 2) := by decide +kernel
theorem dX12_lookedUp_26 : decode cX12_lookedUp 26 = .ok (.ifCond .ge 6, 3) := by decide +kernel
theorem dX12_lookedUp_29 : decode cX12_lookedUp 29 = .ok (.bipush (-10), 2) := by decide +kernel
theorem dX12_lookedUp_31 : decode cX12_lookedUp 31 = .ok (.ireturn, 1) := by decide +kernel
theorem dX12_lookedUp_32 : decode cX12_lookedUp 32 = .ok (.bipush 96, 2) := by decide +kernel
theorem dX12_lookedUp_34 : decode cX12_lookedUp 34 = .ok (.iload_n 3, 1) := by decide +kernel
theorem dX12_lookedUp_35 : decode cX12_lookedUp 35 = .ok (.imul, 1) := by decide +kernel
theorem dX12_lookedUp_36 : decode cX12_lookedUp 36 = .ok (.iload 6, 2) := by decide +kernel
theorem dX12_lookedUp_38 : decode cX12_lookedUp 38 = .ok (.iadd, 1) := by decide +kernel
theorem dX12_lookedUp_39 : decode cX12_lookedUp 39 = .ok (.istore 7, 2) := by decide +kernel
theorem dX12_lookedUp_41 : decode cX12_lookedUp 41 = .ok (.aload_n 0, 1) := by decide +kernel
theorem dX12_lookedUp_42 : decode cX12_lookedUp 42 = .ok (.getfield 45, 3) := by decide +kernel
theorem dX12_lookedUp_45 : decode cX12_lookedUp 45 = .ok (.iload 7, 2) := by decide +kernel
theorem dX12_lookedUp_47 : decode cX12_lookedUp 47 = .ok (.iaload, 1) := by decide +kernel
theorem dX12_lookedUp_48 : decode cX12_lookedUp 48 = .ok (.aload_n 0, 1) := by decide +kernel
theorem dX12_lookedUp_49 : decode cX12_lookedUp 49 = .ok (.getfield 45, 3) := by decide +kernel
theorem dX12_lookedUp_52 : decode cX12_lookedUp 52 = .ok (.iload 5, 2) := by decide +kernel
theorem dX12_lookedUp_54 : decode cX12_lookedUp 54 = .ok (.iaload, 1) := by decide +kernel
theorem dX12_lookedUp_55 : decode cX12_lookedUp 55 = .ok (.if_icmp .eq 6, 3) := by decide +kernel
theorem dX12_lookedUp_58 : decode cX12_lookedUp 58 = .ok (.bipush (-11), 2) := by decide +kernel
theorem dX12_lookedUp_60 : decode cX12_lookedUp 60 = .ok (.ireturn, 1) := by decide +kernel
theorem dX12_lookedUp_61 : decode cX12_lookedUp 61 = .ok (.aload_n 0, 1) := by decide +kernel
theorem dX12_lookedUp_62 : decode cX12_lookedUp 62 = .ok (.getfield 48, 3) := by decide +kernel
theorem dX12_lookedUp_65 : decode cX12_lookedUp 65 = .ok (.iload 7, 2) := by decide +kernel
theorem dX12_lookedUp_67 : decode cX12_lookedUp 67 = .ok (.baload, 1) := by decide +kernel
theorem dX12_lookedUp_68 : decode cX12_lookedUp 68 = .ok (.ifCond .eq 6, 3) := by decide +kernel
theorem dX12_lookedUp_71 : decode cX12_lookedUp 71 = .ok (.bipush (-12), 2) := by decide +kernel
theorem dX12_lookedUp_73 : decode cX12_lookedUp 73 = .ok (.ireturn, 1) := by decide +kernel
theorem dX12_lookedUp_74 : decode cX12_lookedUp 74 = .ok (.aload_n 0, 1) := by decide +kernel
theorem dX12_lookedUp_75 : decode cX12_lookedUp 75 = .ok (.getfield 45, 3) := by decide +kernel
theorem dX12_lookedUp_78 : decode cX12_lookedUp 78 = .ok (.iload 7, 2) := by decide +kernel
theorem dX12_lookedUp_80 : decode cX12_lookedUp 80 = .ok (.iaload, 1) := by decide +kernel
theorem dX12_lookedUp_81 : decode cX12_lookedUp 81 = .ok (.iconst 4, 1) := by decide +kernel
theorem dX12_lookedUp_82 : decode cX12_lookedUp 82 = .ok (.if_icmp .ne 25, 3) := by decide +kernel
theorem dX12_lookedUp_85 : decode cX12_lookedUp 85 = .ok (.aload_n 0, 1) := by decide +kernel
theorem dX12_lookedUp_86 : decode cX12_lookedUp 86 = .ok (.getfield 52, 3) := by decide +kernel
theorem dX12_lookedUp_89 : decode cX12_lookedUp 89 = .ok (.iload 7, 2) := by decide +kernel
theorem dX12_lookedUp_91 : decode cX12_lookedUp 91 = .ok (.iaload, 1) := by decide +kernel
theorem dX12_lookedUp_92 : decode cX12_lookedUp 92 = .ok (.aload_n 0, 1) := by decide +kernel
theorem dX12_lookedUp_93 : decode cX12_lookedUp 93 = .ok (.getfield 52, 3) := by decide +kernel
theorem dX12_lookedUp_96 : decode cX12_lookedUp 96 = .ok (.iload 5, 2) := by decide +kernel
theorem dX12_lookedUp_98 : decode cX12_lookedUp 98 = .ok (.iaload, 1) := by decide +kernel
theorem dX12_lookedUp_99 : decode cX12_lookedUp 99 = .ok (.if_icmp .eq 8, 3) := by decide +kernel
theorem dX12_lookedUp_102 : decode cX12_lookedUp 102 = .ok (.bipush (-13), 2) := by decide +kernel
theorem dX12_lookedUp_104 : decode cX12_lookedUp 104 = .ok (.goto 8, 3) := by decide +kernel
theorem dX12_lookedUp_107 : decode cX12_lookedUp 107 = .ok (.bipush 96, 2) := by decide +kernel
theorem dX12_lookedUp_109 : decode cX12_lookedUp 109 = .ok (.iload 6, 2) := by decide +kernel
theorem dX12_lookedUp_111 : decode cX12_lookedUp 111 = .ok (.iadd, 1) := by decide +kernel
theorem dX12_lookedUp_112 : decode cX12_lookedUp 112 = .ok (.ireturn, 1) := by decide +kernel
theorem dX12_memberAt_0 : decode cX12_memberAt 0 = .ok (.iload_n 1, 1) := by decide +kernel
theorem dX12_memberAt_1 : decode cX12_memberAt 1 = .ok (.sipush 1000, 3) := by decide +kernel
theorem dX12_memberAt_4 : decode cX12_memberAt 4 = .ok (.if_icmp .lt 24, 3) := by decide +kernel
theorem dX12_memberAt_7 : decode cX12_memberAt 7 = .ok (.bipush 96, 2) := by decide +kernel
theorem dX12_memberAt_9 : decode cX12_memberAt 9 = .ok (.aload_n 0, 1) := by decide +kernel
theorem dX12_memberAt_10 : decode cX12_memberAt 10 = .ok (.getfield 100, 3) := by decide +kernel
theorem dX12_memberAt_13 : decode cX12_memberAt 13 = .ok (.sipush 1000, 3) := by decide +kernel
theorem dX12_memberAt_16 : decode cX12_memberAt 16 = .ok (.aload_n 0, 1) := by decide +kernel
theorem dX12_memberAt_17 : decode cX12_memberAt 17 = .ok (.getfield 603, 3) := by decide +kernel
theorem dX12_memberAt_20 : decode cX12_memberAt 20 = .ok (.iconst 1, 1) := by decide +kernel
theorem dX12_memberAt_21 : decode cX12_memberAt 21 = .ok (.isub, 1) := by decide +kernel
theorem dX12_memberAt_22 : decode cX12_memberAt 22 = .ok (.imul, 1) := by decide +kernel
theorem dX12_memberAt_23 : decode cX12_memberAt 23 = .ok (.iload_n 1, 1) := by decide +kernel
theorem dX12_memberAt_24 : decode cX12_memberAt 24 = .ok (.iadd, 1) := by decide +kernel
theorem dX12_memberAt_25 : decode cX12_memberAt 25 = .ok (.iaload, 1) := by decide +kernel
theorem dX12_memberAt_26 : decode cX12_memberAt 26 = .ok (.iadd, 1) := by decide +kernel
theorem dX12_memberAt_27 : decode cX12_memberAt 27 = .ok (.ireturn, 1) := by decide +kernel
theorem dX12_memberAt_28 : decode cX12_memberAt 28 = .ok (.aload_n 0, 1) := by decide +kernel
theorem dX12_memberAt_29 : decode cX12_memberAt 29 = .ok (.getfield 100, 3) := by decide +kernel
theorem dX12_memberAt_32 : decode cX12_memberAt 32 = .ok (.sipush 1000, 3) := by decide +kernel
theorem dX12_memberAt_35 : decode cX12_memberAt 35 = .ok (.aload_n 0, 1) := by decide +kernel
theorem dX12_memberAt_36 : decode cX12_memberAt 36 = .ok (.getfield 600, 3) := by decide +kernel
theorem dX12_memberAt_39 : decode cX12_memberAt 39 = .ok (.imul, 1) := by decide +kernel
theorem dX12_memberAt_40 : decode cX12_memberAt 40 = .ok (.iload_n 1, 1) := by decide +kernel
theorem dX12_memberAt_41 : decode cX12_memberAt 41 = .ok (.iadd, 1) := by decide +kernel
theorem dX12_memberAt_42 : decode cX12_memberAt 42 = .ok (.iaload, 1) := by decide +kernel
theorem dX12_memberAt_43 : decode cX12_memberAt 43 = .ok (.istore_n 2, 1) := by decide +kernel
theorem dX12_memberAt_44 : decode cX12_memberAt 44 = .ok (.aload_n 0, 1) := by decide +kernel
theorem dX12_memberAt_45 : decode cX12_memberAt 45 = .ok (.getfield 218, 3) := by decide +kernel
theorem dX12_memberAt_48 : decode cX12_memberAt 48 = .ok (.aload_n 0, 1) := by decide +kernel
theorem dX12_memberAt_49 : decode cX12_memberAt 49 = .ok (.getfield 42, 3) := by decide +kernel
theorem dX12_memberAt_52 : decode cX12_memberAt 52 = .ok (.bipush 96, 2) := by decide +kernel
theorem dX12_memberAt_54 : decode cX12_memberAt 54 = .ok (.aload_n 0, 1) := by decide +kernel
theorem dX12_memberAt_55 : decode cX12_memberAt 55 = .ok (.getfield 600, 3) := by decide +kernel
theorem dX12_memberAt_58 : decode cX12_memberAt 58 = .ok (.imul, 1) := by decide +kernel
theorem dX12_memberAt_59 : decode cX12_memberAt 59 = .ok (.iload_n 2, 1) := by decide +kernel
theorem dX12_memberAt_60 : decode cX12_memberAt 60 = .ok (.iadd, 1) := by decide +kernel
theorem dX12_memberAt_61 : decode cX12_memberAt 61 = .ok (.iaload, 1) := by decide +kernel
theorem dX12_memberAt_62 : decode cX12_memberAt 62 = .ok (.iaload, 1) := by decide +kernel
theorem dX12_memberAt_63 : decode cX12_memberAt 63 = .ok (.istore_n 3, 1) := by decide +kernel
theorem dX12_memberAt_64 : decode cX12_memberAt 64 = .ok (.iload_n 3, 1) := by decide +kernel
theorem dX12_memberAt_65 : decode cX12_memberAt 65 = .ok (.ifCond .ge 7, 3) := by decide +kernel
theorem dX12_memberAt_68 : decode cX12_memberAt 68 = .ok (.iload_n 2, 1) := by decide +kernel
theorem dX12_memberAt_69 : decode cX12_memberAt 69 = .ok (.goto 17, 3) := by decide +kernel
theorem dX12_memberAt_72 : decode cX12_memberAt 72 = .ok (.aload_n 0, 1) := by decide +kernel
theorem dX12_memberAt_73 : decode cX12_memberAt 73 = .ok (.aload_n 0, 1) := by decide +kernel
theorem dX12_memberAt_74 : decode cX12_memberAt 74 = .ok (.getfield 600, 3) := by decide +kernel
theorem dX12_memberAt_77 : decode cX12_memberAt 77 = .ok (.iload_n 2, 1) := by decide +kernel
theorem dX12_memberAt_78 : decode cX12_memberAt 78 = .ok (.aload_n 0, 1) := by decide +kernel
theorem dX12_memberAt_79 : decode cX12_memberAt 79 = .ok (.getfield 603, 3) := by decide +kernel
theorem dX12_memberAt_82 : decode cX12_memberAt 82 = .ok (.iload_n 3, 1) := by decide +kernel
theorem dX12_memberAt_83 : decode cX12_memberAt 83 = .ok (.invokevirtual 606, 3) := by decide +kernel
theorem dX12_memberAt_86 : decode cX12_memberAt 86 = .ok (.ireturn, 1) := by decide +kernel
theorem dX12_fails_0 : decode cX12_fails 0 = .ok (.aload_n 0, 1) := by decide +kernel
theorem dX12_fails_1 : decode cX12_fails 1 = .ok (.iconst 1, 1) := by decide +kernel
theorem dX12_fails_2 : decode cX12_fails 2 = .ok (.putfield 610, 3) := by decide +kernel
theorem dX12_fails_5 : decode cX12_fails 5 = .ok (.aload_n 0, 1) := by decide +kernel
theorem dX12_fails_6 : decode cX12_fails 6 = .ok (.iload_n 1, 1) := by decide +kernel
theorem dX12_fails_7 : decode cX12_fails 7 = .ok (.putfield 613, 3) := by decide +kernel
theorem dX12_fails_10 : decode cX12_fails 10 = .ok (.aload_n 0, 1) := by decide +kernel
theorem dX12_fails_11 : decode cX12_fails 11 = .ok (.iload_n 2, 1) := by decide +kernel
theorem dX12_fails_12 : decode cX12_fails 12 = .ok (.putfield 616, 3) := by decide +kernel
theorem dX12_fails_15 : decode cX12_fails 15 = .ok (.aload_n 0, 1) := by decide +kernel
theorem dX12_fails_16 : decode cX12_fails 16 = .ok (.iload_n 3, 1) := by decide +kernel
theorem dX12_fails_17 : decode cX12_fails 17 = .ok (.putfield 619, 3) := by decide +kernel
theorem dX12_fails_20 : decode cX12_fails 20 = .ok (.return_, 1) := by decide +kernel
theorem dX12_begins_0 : decode cX12_begins 0 = .ok (.aload_n 0, 1) := by decide +kernel
theorem dX12_begins_1 : decode cX12_begins 1 = .ok (.iload_n 1, 1) := by decide +kernel
theorem dX12_begins_2 : decode cX12_begins 2 = .ok (.invokevirtual 622, 3) := by decide +kernel
theorem dX12_begins_5 : decode cX12_begins 5 = .ok (.istore_n 3, 1) := by decide +kernel
theorem dX12_begins_6 : decode cX12_begins 6 = .ok (.aload_n 0, 1) := by decide +kernel
theorem dX12_begins_7 : decode cX12_begins 7 = .ok (.getfield 42, 3) := by decide +kernel
theorem dX12_begins_10 : decode cX12_begins 10 = .ok (.iload_n 3, 1) := by decide +kernel
theorem dX12_begins_11 : decode cX12_begins 11 = .ok (.iaload, 1) := by decide +kernel
theorem dX12_begins_12 : decode cX12_begins 12 = .ok (.iload_n 1, 1) := by decide +kernel
theorem dX12_begins_13 : decode cX12_begins 13 = .ok (.bipush 96, 2) := by decide +kernel
theorem dX12_begins_15 : decode cX12_begins 15 = .ok (.if_icmp .ge 7, 3) := by decide +kernel
theorem dX12_begins_18 : decode cX12_begins 18 = .ok (.iconst 0, 1) := by decide +kernel
theorem dX12_begins_19 : decode cX12_begins 19 = .ok (.goto 5, 3) := by decide +kernel
theorem dX12_begins_22 : decode cX12_begins 22 = .ok (.bipush 8, 2) := by decide +kernel
theorem dX12_begins_24 : decode cX12_begins 24 = .ok (.iadd, 1) := by decide +kernel
theorem dX12_begins_25 : decode cX12_begins 25 = .ok (.istore 4, 2) := by decide +kernel
theorem dX12_begins_27 : decode cX12_begins 27 = .ok (.aload_n 0, 1) := by decide +kernel
theorem dX12_begins_28 : decode cX12_begins 28 = .ok (.getfield 221, 3) := by decide +kernel
theorem dX12_begins_31 : decode cX12_begins 31 = .ok (.iload 4, 2) := by decide +kernel
theorem dX12_begins_33 : decode cX12_begins 33 = .ok (.iaload, 1) := by decide +kernel
theorem dX12_begins_34 : decode cX12_begins 34 = .ok (.iconst 1, 1) := by decide +kernel
theorem dX12_begins_35 : decode cX12_begins 35 = .ok (.if_icmp .ne 5, 3) := by decide +kernel
theorem dX12_begins_38 : decode cX12_begins 38 = .ok (.iconst 1, 1) := by decide +kernel
theorem dX12_begins_39 : decode cX12_begins 39 = .ok (.ireturn, 1) := by decide +kernel
theorem dX12_begins_40 : decode cX12_begins 40 = .ok (.aload_n 0, 1) := by decide +kernel
theorem dX12_begins_41 : decode cX12_begins 41 = .ok (.getfield 221, 3) := by decide +kernel
theorem dX12_begins_44 : decode cX12_begins 44 = .ok (.iload 4, 2) := by decide +kernel
theorem dX12_begins_46 : decode cX12_begins 46 = .ok (.iaload, 1) := by decide +kernel
theorem dX12_begins_47 : decode cX12_begins 47 = .ok (.iconst 2, 1) := by decide +kernel
theorem dX12_begins_48 : decode cX12_begins 48 = .ok (.if_icmp .ne 13, 3) := by decide +kernel
theorem dX12_begins_51 : decode cX12_begins 51 = .ok (.aload_n 0, 1) := by decide +kernel
theorem dX12_begins_52 : decode cX12_begins 52 = .ok (.bipush 9, 2) := by decide +kernel
theorem dX12_begins_54 : decode cX12_begins 54 = .ok (.iload_n 2, 1) := by decide +kernel
theorem dX12_begins_55 : decode cX12_begins 55 = .ok (.iconst 0, 1) := by decide +kernel
theorem dX12_begins_56 : decode cX12_begins 56 = .ok (.invokevirtual 625, 3) := by decide +kernel
theorem dX12_begins_59 : decode cX12_begins 59 = .ok (.iconst 0, 1) := by decide +kernel
theorem dX12_begins_60 : decode cX12_begins 60 = .ok (.ireturn, 1) := by decide +kernel
theorem dX12_begins_61 : decode cX12_begins 61 = .ok (.aload_n 0, 1) := by decide +kernel
theorem dX12_begins_62 : decode cX12_begins 62 = .ok (.getfield 221, 3) := by decide +kernel
theorem dX12_begins_65 : decode cX12_begins 65 = .ok (.iload 4, 2) := by decide +kernel
theorem dX12_begins_67 : decode cX12_begins 67 = .ok (.iconst 1, 1) := by decide +kernel
theorem dX12_begins_68 : decode cX12_begins 68 = .ok (.iastore, 1) := by decide +kernel
theorem dX12_begins_69 : decode cX12_begins 69 = .ok (.iload_n 1, 1) := by decide +kernel
theorem dX12_begins_70 : decode cX12_begins 70 = .ok (.bipush 96, 2) := by decide +kernel
theorem dX12_begins_72 : decode cX12_begins 72 = .ok (.if_icmp .ge 10, 3) := by decide +kernel
theorem dX12_begins_75 : decode cX12_begins 75 = .ok (.aload_n 0, 1) := by decide +kernel
theorem dX12_begins_76 : decode cX12_begins 76 = .ok (.getfield 600, 3) := by decide +kernel
theorem dX12_begins_79 : decode cX12_begins 79 = .ok (.goto 7, 3) := by decide +kernel
theorem dX12_begins_82 : decode cX12_begins 82 = .ok (.aload_n 0, 1) := by decide +kernel
theorem dX12_begins_83 : decode cX12_begins 83 = .ok (.getfield 603, 3) := by decide +kernel
theorem dX12_begins_86 : decode cX12_begins 86 = .ok (.istore 5, 2) := by decide +kernel
theorem dX12_begins_88 : decode cX12_begins 88 = .ok (.iload_n 1, 1) := by decide +kernel
theorem dX12_begins_89 : decode cX12_begins 89 = .ok (.bipush 96, 2) := by decide +kernel
theorem dX12_begins_91 : decode cX12_begins 91 = .ok (.if_icmp .ge 7, 3) := by decide +kernel
theorem dX12_begins_94 : decode cX12_begins 94 = .ok (.iconst 0, 1) := by decide +kernel
theorem dX12_begins_95 : decode cX12_begins 95 = .ok (.goto 5, 3) := by decide +kernel
theorem dX12_begins_98 : decode cX12_begins 98 = .ok (.bipush 96, 2) := by decide +kernel
theorem dX12_begins_100 : decode cX12_begins 100 = .ok (.istore 6, 2) := by decide +kernel
theorem dX12_begins_102 : decode cX12_begins 102 = .ok (.iconst 0, 1) := by decide +kernel
theorem dX12_begins_103 : decode cX12_begins 103 = .ok (.istore 7, 2) := by decide +kernel
theorem dX12_begins_105 : decode cX12_begins 105 = .ok (.iload 7, 2) := by decide +kernel
theorem dX12_begins_107 : decode cX12_begins 107 = .ok (.aload_n 0, 1) := by decide +kernel
theorem dX12_begins_108 : decode cX12_begins 108 = .ok (.getfield 36, 3) := by decide +kernel
theorem dX12_begins_111 : decode cX12_begins 111 = .ok (.iload 5, 2) := by decide +kernel
theorem dX12_begins_113 : decode cX12_begins 113 = .ok (.iaload, 1) := by decide +kernel
theorem dX12_begins_114 : decode cX12_begins 114 = .ok (.if_icmp .ge 128, 3) := by decide +kernel
theorem dX12_begins_117 : decode cX12_begins 117 = .ok (.bipush 96, 2) := by decide +kernel
theorem dX12_begins_119 : decode cX12_begins 119 = .ok (.iload 5, 2) := by decide +kernel
theorem dX12_begins_121 : decode cX12_begins 121 = .ok (.imul, 1) := by decide +kernel
theorem dX12_begins_122 : decode cX12_begins 122 = .ok (.iload 7, 2) := by decide +kernel
theorem dX12_begins_124 : decode cX12_begins 124 = .ok (.iadd, 1) := by decide +kernel
theorem dX12_begins_125 : decode cX12_begins 125 = .ok (.istore 8, 2) := by decide +kernel
theorem dX12_begins_127 : decode cX12_begins 127 = .ok (.aload_n 0, 1) := by decide +kernel
theorem dX12_begins_128 : decode cX12_begins 128 = .ok (.getfield 42, 3) := by decide +kernel
theorem dX12_begins_131 : decode cX12_begins 131 = .ok (.iload 8, 2) := by decide +kernel
theorem dX12_begins_133 : decode cX12_begins 133 = .ok (.iaload, 1) := by decide +kernel
theorem dX12_begins_134 : decode cX12_begins 134 = .ok (.aload_n 0, 1) := by decide +kernel
theorem dX12_begins_135 : decode cX12_begins 135 = .ok (.getfield 42, 3) := by decide +kernel
theorem dX12_begins_138 : decode cX12_begins 138 = .ok (.iload_n 3, 1) := by decide +kernel
theorem dX12_begins_139 : decode cX12_begins 139 = .ok (.iaload, 1) := by decide +kernel
theorem dX12_begins_140 : decode cX12_begins 140 = .ok (.if_icmp .ne 31, 3) := by decide +kernel
theorem dX12_begins_143 : decode cX12_begins 143 = .ok (.aload_n 0, 1) := by decide +kernel
theorem dX12_begins_144 : decode cX12_begins 144 = .ok (.getfield 45, 3) := by decide +kernel
theorem dX12_begins_147 : decode cX12_begins 147 = .ok (.iload 8, 2) := by decide +kernel
theorem dX12_begins_149 : decode cX12_begins 149 = .ok (.iaload, 1) := by decide +kernel
theorem dX12_begins_150 : decode cX12_begins 150 = .ok (.iconst 1, 1) := by decide +kernel
theorem dX12_begins_151 : decode cX12_begins 151 = .ok (.if_icmp .ne 20, 3) := by decide +kernel
theorem dX12_begins_154 : decode cX12_begins 154 = .ok (.aload_n 0, 1) := by decide +kernel
theorem dX12_begins_155 : decode cX12_begins 155 = .ok (.getfield 224, 3) := by decide +kernel
theorem dX12_begins_158 : decode cX12_begins 158 = .ok (.iload 6, 2) := by decide +kernel
theorem dX12_begins_160 : decode cX12_begins 160 = .ok (.iload 7, 2) := by decide +kernel
theorem dX12_begins_162 : decode cX12_begins 162 = .ok (.iadd, 1) := by decide +kernel
theorem dX12_begins_163 : decode cX12_begins 163 = .ok (.aload_n 0, 1) := by decide +kernel
theorem dX12_begins_164 : decode cX12_begins 164 = .ok (.getfield 52, 3) := by decide +kernel
theorem dX12_begins_167 : decode cX12_begins 167 = .ok (.iload 8, 2) := by decide +kernel
theorem dX12_begins_169 : decode cX12_begins 169 = .ok (.iaload, 1) := by decide +kernel
theorem dX12_begins_170 : decode cX12_begins 170 = .ok (.iastore, 1) := by decide +kernel
theorem dX12_begins_171 : decode cX12_begins 171 = .ok (.iconst 0, 1) := by decide +kernel
theorem dX12_begins_172 : decode cX12_begins 172 = .ok (.istore 9, 2) := by decide +kernel
theorem dX12_begins_174 : decode cX12_begins 174 = .ok (.aload_n 0, 1) := by decide +kernel
theorem dX12_begins_175 : decode cX12_begins 175 = .ok (.getfield 42, 3) := by decide +kernel
theorem dX12_begins_178 : decode cX12_begins 178 = .ok (.iload 8, 2) := by decide +kernel
theorem dX12_begins_180 : decode cX12_begins 180 = .ok (.iaload, 1) := by decide +kernel
theorem dX12_begins_181 : decode cX12_begins 181 = .ok (.aload_n 0, 1) := by decide +kernel
theorem dX12_begins_182 : decode cX12_begins 182 = .ok (.getfield 42, 3) := by decide +kernel
theorem dX12_begins_185 : decode cX12_begins 185 = .ok (.iload_n 3, 1) := by decide +kernel
theorem dX12_begins_186 : decode cX12_begins 186 = .ok (.iaload, 1) := by decide +kernel
theorem dX12_begins_187 : decode cX12_begins 187 = .ok (.if_icmp .ne 49, 3) := by decide +kernel
theorem dX12_begins_190 : decode cX12_begins 190 = .ok (.aload_n 0, 1) := by decide +kernel
theorem dX12_begins_191 : decode cX12_begins 191 = .ok (.getfield 45, 3) := by decide +kernel
theorem dX12_begins_194 : decode cX12_begins 194 = .ok (.iload 8, 2) := by decide +kernel
theorem dX12_begins_196 : decode cX12_begins 196 = .ok (.iaload, 1) := by decide +kernel
theorem dX12_begins_197 : decode cX12_begins 197 = .ok (.iconst 3, 1) := by decide +kernel
theorem dX12_begins_198 : decode cX12_begins 198 = .ok (.if_icmp .ne 38, 3) := by decide +kernel
theorem dX12_begins_201 : decode cX12_begins 201 = .ok (.iload 9, 2) := by decide +kernel
theorem dX12_begins_203 : decode cX12_begins 203 = .ok (.aload_n 0, 1) := by decide +kernel
theorem dX12_begins_204 : decode cX12_begins 204 = .ok (.getfield 52, 3) := by decide +kernel
theorem dX12_begins_207 : decode cX12_begins 207 = .ok (.iload 8, 2) := by decide +kernel
theorem dX12_begins_209 : decode cX12_begins 209 = .ok (.iaload, 1) := by decide +kernel
theorem dX12_begins_210 : decode cX12_begins 210 = .ok (.if_icmp .ge 26, 3) := by decide +kernel
theorem dX12_begins_213 : decode cX12_begins 213 = .ok (.aload_n 0, 1) := by decide +kernel
theorem dX12_begins_214 : decode cX12_begins 214 = .ok (.getfield 227, 3) := by decide +kernel
theorem dX12_begins_217 : decode cX12_begins 217 = .ok (.bipush 50, 2) := by decide +kernel
theorem dX12_begins_219 : decode cX12_begins 219 = .ok (.iload 6, 2) := by decide +kernel
theorem dX12_begins_221 : decode cX12_begins 221 = .ok (.iload 7, 2) := by decide +kernel
theorem dX12_begins_223 : decode cX12_begins 223 = .ok (.iadd, 1) := by decide +kernel
theorem dX12_begins_224 : decode cX12_begins 224 = .ok (.imul, 1) := by decide +kernel
theorem dX12_begins_225 : decode cX12_begins 225 = .ok (.iload 9, 2) := by decide +kernel
theorem dX12_begins_227 : decode cX12_begins 227 = .ok (.iadd, 1) := by decide +kernel
theorem dX12_begins_228 : decode cX12_begins 228 = .ok (.iconst 0, 1) := by decide +kernel
theorem dX12_begins_229 : decode cX12_begins 229 = .ok (.iastore, 1) := by decide +kernel
theorem dX12_begins_230 : decode cX12_begins 230 = .ok (.iinc 9 1, 3) := by decide +kernel
theorem dX12_begins_233 : decode cX12_begins 233 = .ok (.goto (-59), 3) := by decide +kernel
theorem dX12_begins_236 : decode cX12_begins 236 = .ok (.iinc 7 1, 3) := by decide +kernel
theorem dX12_begins_239 : decode cX12_begins 239 = .ok (.goto (-134), 3) := by decide +kernel
theorem dX12_begins_242 : decode cX12_begins 242 = .ok (.aload_n 0, 1) := by decide +kernel
theorem dX12_begins_243 : decode cX12_begins 243 = .ok (.getfield 21, 3) := by decide +kernel
theorem dX12_begins_246 : decode cX12_begins 246 = .ok (.bipush 8, 2) := by decide +kernel
theorem dX12_begins_248 : decode cX12_begins 248 = .ok (.iload 5, 2) := by decide +kernel
theorem dX12_begins_250 : decode cX12_begins 250 = .ok (.imul, 1) := by decide +kernel
theorem dX12_begins_251 : decode cX12_begins 251 = .ok (.aload_n 0, 1) := by decide +kernel
theorem dX12_begins_252 : decode cX12_begins 252 = .ok (.getfield 42, 3) := by decide +kernel
theorem dX12_begins_255 : decode cX12_begins 255 = .ok (.iload_n 3, 1) := by decide +kernel
theorem dX12_begins_256 : decode cX12_begins 256 = .ok (.iaload, 1) := by decide +kernel
theorem dX12_begins_257 : decode cX12_begins 257 = .ok (.iadd, 1) := by decide +kernel
theorem dX12_begins_258 : decode cX12_begins 258 = .ok (.iaload, 1) := by decide +kernel
theorem dX12_begins_259 : decode cX12_begins 259 = .ok (.istore 7, 2) := by decide +kernel
theorem dX12_begins_261 : decode cX12_begins 261 = .ok (.iload 7, 2) := by decide +kernel
theorem dX12_begins_263 : decode cX12_begins 263 = .ok (.ifCond .ge 5, 3) := by decide +kernel
theorem dX12_begins_266 : decode cX12_begins 266 = .ok (.iconst 1, 1) := by decide +kernel
theorem dX12_begins_267 : decode cX12_begins 267 = .ok (.ireturn, 1) := by decide +kernel
theorem dX12_begins_268 : decode cX12_begins 268 = .ok (.aload_n 0, 1) := by decide +kernel
theorem dX12_begins_269 : decode cX12_begins 269 = .ok (.getfield 629, 3) := by decide +kernel
theorem dX12_begins_272 : decode cX12_begins 272 = .ok (.bipush 12, 2) := by decide +kernel
theorem dX12_begins_274 : decode cX12_begins 274 = .ok (.if_icmp .ge 53, 3) := by decide +kernel
theorem dX12_begins_277 : decode cX12_begins 277 = .ok (.aload_n 0, 1) := by decide +kernel
theorem dX12_begins_278 : decode cX12_begins 278 = .ok (.iload 7, 2) := by decide +kernel
theorem dX12_begins_280 : decode cX12_begins 280 = .ok (.iload_n 1, 1) := by decide +kernel
theorem dX12_begins_281 : decode cX12_begins 281 = .ok (.bipush 96, 2) := by decide +kernel
theorem dX12_begins_283 : decode cX12_begins 283 = .ok (.if_icmp .ge 7, 3) := by decide +kernel
theorem dX12_begins_286 : decode cX12_begins 286 = .ok (.iconst 0, 1) := by decide +kernel
theorem dX12_begins_287 : decode cX12_begins 287 = .ok (.goto 6, 3) := by decide +kernel
theorem dX12_begins_290 : decode cX12_begins 290 = .ok (.sipush 1000, 3) := by decide +kernel
theorem dX12_begins_293 : decode cX12_begins 293 = .ok (.iadd, 1) := by decide +kernel
theorem dX12_begins_294 : decode cX12_begins 294 = .ok (.iconst 0, 1) := by decide +kernel
theorem dX12_begins_295 : decode cX12_begins 295 = .ok (.invokevirtual 632, 3) := by decide +kernel
theorem dX12_begins_298 : decode cX12_begins 298 = .ok (.istore 8, 2) := by decide +kernel
theorem dX12_begins_300 : decode cX12_begins 300 = .ok (.aload_n 0, 1) := by decide +kernel
theorem dX12_begins_301 : decode cX12_begins 301 = .ok (.getfield 635, 3) := by decide +kernel
theorem dX12_begins_304 : decode cX12_begins 304 = .ok (.ifCond .ne 10, 3) := by decide +kernel
theorem dX12_begins_307 : decode cX12_begins 307 = .ok (.aload_n 0, 1) := by decide +kernel
theorem dX12_begins_308 : decode cX12_begins 308 = .ok (.getfield 610, 3) := by decide +kernel
theorem dX12_begins_311 : decode cX12_begins 311 = .ok (.ifCond .ne 16, 3) := by decide +kernel
theorem dX12_begins_314 : decode cX12_begins 314 = .ok (.aload_n 0, 1) := by decide +kernel
theorem dX12_begins_315 : decode cX12_begins 315 = .ok (.getfield 635, 3) := by decide +kernel
theorem dX12_begins_318 : decode cX12_begins 318 = .ok (.ifCond .ne 7, 3) := by decide +kernel
theorem dX12_begins_321 : decode cX12_begins 321 = .ok (.iconst 1, 1) := by decide +kernel
theorem dX12_begins_322 : decode cX12_begins 322 = .ok (.goto 4, 3) := by decide +kernel
theorem dX12_begins_325 : decode cX12_begins 325 = .ok (.iconst 0, 1) := by decide +kernel
theorem dX12_begins_326 : decode cX12_begins 326 = .ok (.ireturn, 1) := by decide +kernel
theorem dX12_begins_327 : decode cX12_begins 327 = .ok (.aload_n 0, 1) := by decide +kernel
theorem dX12_begins_328 : decode cX12_begins 328 = .ok (.getfield 221, 3) := by decide +kernel
theorem dX12_begins_331 : decode cX12_begins 331 = .ok (.iload 4, 2) := by decide +kernel
theorem dX12_begins_333 : decode cX12_begins 333 = .ok (.iconst 2, 1) := by decide +kernel
theorem dX12_begins_334 : decode cX12_begins 334 = .ok (.iastore, 1) := by decide +kernel
theorem dX12_begins_335 : decode cX12_begins 335 = .ok (.aload_n 0, 1) := by decide +kernel
theorem dX12_begins_336 : decode cX12_begins 336 = .ok (.bipush 8, 2) := by decide +kernel
theorem dX12_begins_338 : decode cX12_begins 338 = .ok (.iload_n 2, 1) := by decide +kernel
theorem dX12_begins_339 : decode cX12_begins 339 = .ok (.iconst 0, 1) := by decide +kernel
theorem dX12_begins_340 : decode cX12_begins 340 = .ok (.invokevirtual 625, 3) := by decide +kernel
theorem dX12_begins_343 : decode cX12_begins 343 = .ok (.iconst 0, 1) := by decide +kernel
theorem dX12_begins_344 : decode cX12_begins 344 = .ok (.ireturn, 1) := by decide +kernel
theorem dX12_push_0 : decode cX12_push 0 = .ok (.aload_n 0, 1) := by decide +kernel
theorem dX12_push_1 : decode cX12_push 1 = .ok (.getfield 230, 3) := by decide +kernel
theorem dX12_push_4 : decode cX12_push 4 = .ok (.aload_n 0, 1) := by decide +kernel
theorem dX12_push_5 : decode cX12_push 5 = .ok (.getfield 638, 3) := by decide +kernel
theorem dX12_push_8 : decode cX12_push 8 = .ok (.iload_n 1, 1) := by decide +kernel
theorem dX12_push_9 : decode cX12_push 9 = .ok (.iastore, 1) := by decide +kernel
theorem dX12_push_10 : decode cX12_push 10 = .ok (.aload_n 0, 1) := by decide +kernel
theorem dX12_push_11 : decode cX12_push 11 = .ok (.dup, 1) := by decide +kernel
theorem dX12_push_12 : decode cX12_push 12 = .ok (.getfield 638, 3) := by decide +kernel
theorem dX12_push_15 : decode cX12_push 15 = .ok (.iconst 1, 1) := by decide +kernel
theorem dX12_push_16 : decode cX12_push 16 = .ok (.iadd, 1) := by decide +kernel
theorem dX12_push_17 : decode cX12_push 17 = .ok (.putfield 638, 3) := by decide +kernel
theorem dX12_push_20 : decode cX12_push 20 = .ok (.return_, 1) := by decide +kernel
theorem dX12_pop_0 : decode cX12_pop 0 = .ok (.aload_n 0, 1) := by decide +kernel
theorem dX12_pop_1 : decode cX12_pop 1 = .ok (.dup, 1) := by decide +kernel
theorem dX12_pop_2 : decode cX12_pop 2 = .ok (.getfield 638, 3) := by decide +kernel
theorem dX12_pop_5 : decode cX12_pop 5 = .ok (.iconst 1, 1) := by decide +kernel
theorem dX12_pop_6 : decode cX12_pop 6 = .ok (.isub, 1) := by decide +kernel
theorem dX12_pop_7 : decode cX12_pop 7 = .ok (.putfield 638, 3) := by decide +kernel
theorem dX12_pop_10 : decode cX12_pop 10 = .ok (.aload_n 0, 1) := by decide +kernel
theorem dX12_pop_11 : decode cX12_pop 11 = .ok (.getfield 230, 3) := by decide +kernel
theorem dX12_pop_14 : decode cX12_pop 14 = .ok (.aload_n 0, 1) := by decide +kernel
theorem dX12_pop_15 : decode cX12_pop 15 = .ok (.getfield 638, 3) := by decide +kernel
theorem dX12_pop_18 : decode cX12_pop 18 = .ok (.iaload, 1) := by decide +kernel
theorem dX12_pop_19 : decode cX12_pop 19 = .ok (.ireturn, 1) := by decide +kernel
theorem dX12_done_0 : decode cX12_done 0 = .ok (.aload_n 0, 1) := by decide +kernel
theorem dX12_done_1 : decode cX12_done 1 = .ok (.getfield 629, 3) := by decide +kernel
theorem dX12_done_4 : decode cX12_done 4 = .ok (.istore_n 3, 1) := by decide +kernel
theorem dX12_done_5 : decode cX12_done 5 = .ok (.aload_n 0, 1) := by decide +kernel
theorem dX12_done_6 : decode cX12_done 6 = .ok (.dup, 1) := by decide +kernel
theorem dX12_done_7 : decode cX12_done 7 = .ok (.getfield 629, 3) := by decide +kernel
theorem dX12_done_10 : decode cX12_done 10 = .ok (.iconst 1, 1) := by decide +kernel
theorem dX12_done_11 : decode cX12_done 11 = .ok (.iadd, 1) := by decide +kernel
theorem dX12_done_12 : decode cX12_done 12 = .ok (.putfield 629, 3) := by decide +kernel
theorem dX12_done_15 : decode cX12_done 15 = .ok (.iconst 0, 1) := by decide +kernel
theorem dX12_done_16 : decode cX12_done 16 = .ok (.istore 4, 2) := by decide +kernel
theorem dX12_done_18 : decode cX12_done 18 = .ok (.iload 4, 2) := by decide +kernel
theorem dX12_done_20 : decode cX12_done 20 = .ok (.bipush 10, 2) := by decide +kernel
theorem dX12_done_22 : decode cX12_done 22 = .ok (.if_icmp .ge 45, 3) := by decide +kernel
theorem dX12_done_25 : decode cX12_done 25 = .ok (.aload_n 0, 1) := by decide +kernel
theorem dX12_done_26 : decode cX12_done 26 = .ok (.getfield 233, 3) := by decide +kernel
theorem dX12_done_29 : decode cX12_done 29 = .ok (.bipush 10, 2) := by decide +kernel
theorem dX12_done_31 : decode cX12_done 31 = .ok (.iload_n 3, 1) := by decide +kernel
theorem dX12_done_32 : decode cX12_done 32 = .ok (.imul, 1) := by decide +kernel
theorem dX12_done_33 : decode cX12_done 33 = .ok (.iload 4, 2) := by decide +kernel
theorem dX12_done_35 : decode cX12_done 35 = .ok (.iadd, 1) := by decide +kernel
theorem dX12_done_36 : decode cX12_done 36 = .ok (.iload 4, 2) := by decide +kernel
theorem dX12_done_38 : decode cX12_done 38 = .ok (.iload_n 2, 1) := by decide +kernel
theorem dX12_done_39 : decode cX12_done 39 = .ok (.if_icmp .ge 20, 3) := by decide +kernel
theorem dX12_done_42 : decode cX12_done 42 = .ok (.aload_n 0, 1) := by decide +kernel
theorem dX12_done_43 : decode cX12_done 43 = .ok (.getfield 230, 3) := by decide +kernel
theorem dX12_done_46 : decode cX12_done 46 = .ok (.aload_n 0, 1) := by decide +kernel
theorem dX12_done_47 : decode cX12_done 47 = .ok (.getfield 638, 3) := by decide +kernel
theorem dX12_done_50 : decode cX12_done 50 = .ok (.iload_n 2, 1) := by decide +kernel
theorem dX12_done_51 : decode cX12_done 51 = .ok (.isub, 1) := by decide +kernel
theorem dX12_done_52 : decode cX12_done 52 = .ok (.iload 4, 2) := by decide +kernel
theorem dX12_done_54 : decode cX12_done 54 = .ok (.iadd, 1) := by decide +kernel
theorem dX12_done_55 : decode cX12_done 55 = .ok (.iaload, 1) := by decide +kernel
theorem dX12_done_56 : decode cX12_done 56 = .ok (.goto 4, 3) := by decide +kernel
theorem dX12_done_59 : decode cX12_done 59 = .ok (.iconst 0, 1) := by decide +kernel
theorem dX12_done_60 : decode cX12_done 60 = .ok (.iastore, 1) := by decide +kernel
theorem dX12_done_61 : decode cX12_done 61 = .ok (.iinc 4 1, 3) := by decide +kernel
theorem dX12_done_64 : decode cX12_done 64 = .ok (.goto (-46), 3) := by decide +kernel
theorem dX12_done_67 : decode cX12_done 67 = .ok (.aload_n 0, 1) := by decide +kernel
theorem dX12_done_68 : decode cX12_done 68 = .ok (.dup, 1) := by decide +kernel
theorem dX12_done_69 : decode cX12_done 69 = .ok (.getfield 638, 3) := by decide +kernel
theorem dX12_done_72 : decode cX12_done 72 = .ok (.iload_n 2, 1) := by decide +kernel
theorem dX12_done_73 : decode cX12_done 73 = .ok (.isub, 1) := by decide +kernel
theorem dX12_done_74 : decode cX12_done 74 = .ok (.putfield 638, 3) := by decide +kernel
theorem dX12_done_77 : decode cX12_done 77 = .ok (.aload_n 0, 1) := by decide +kernel
theorem dX12_done_78 : decode cX12_done 78 = .ok (.getfield 638, 3) := by decide +kernel
theorem dX12_done_81 : decode cX12_done 81 = .ok (.istore 4, 2) := by decide +kernel
theorem dX12_done_83 : decode cX12_done 83 = .ok (.iconst 0, 1) := by decide +kernel
theorem dX12_done_84 : decode cX12_done 84 = .ok (.istore 5, 2) := by decide +kernel
theorem dX12_done_86 : decode cX12_done 86 = .ok (.iload_n 1, 1) := by decide +kernel
theorem dX12_done_87 : decode cX12_done 87 = .ok (.istore 6, 2) := by decide +kernel
theorem dX12_done_89 : decode cX12_done 89 = .ok (.aload_n 0, 1) := by decide +kernel
theorem dX12_done_90 : decode cX12_done 90 = .ok (.getfield 641, 3) := by decide +kernel
theorem dX12_done_93 : decode cX12_done 93 = .ok (.ifCond .ne 20, 3) := by decide +kernel
theorem dX12_done_96 : decode cX12_done 96 = .ok (.aload_n 0, 1) := by decide +kernel
theorem dX12_done_97 : decode cX12_done 97 = .ok (.iconst 1, 1) := by decide +kernel
theorem dX12_done_98 : decode cX12_done 98 = .ok (.putfield 635, 3) := by decide +kernel
theorem dX12_done_101 : decode cX12_done 101 = .ok (.aload_n 0, 1) := by decide +kernel
theorem dX12_done_102 : decode cX12_done 102 = .ok (.bipush 6, 2) := by decide +kernel
theorem dX12_done_104 : decode cX12_done 104 = .ok (.iload 6, 2) := by decide +kernel
theorem dX12_done_106 : decode cX12_done 106 = .ok (.iconst 1, 1) := by decide +kernel
theorem dX12_done_107 : decode cX12_done 107 = .ok (.invokevirtual 625, 3) := by decide +kernel
theorem dX12_done_110 : decode cX12_done 110 = .ok (.goto 25, 3) := by decide +kernel
theorem dX12_done_113 : decode cX12_done 113 = .ok (.aload_n 0, 1) := by decide +kernel
theorem dX12_done_114 : decode cX12_done 114 = .ok (.getfield 644, 3) := by decide +kernel
theorem dX12_done_117 : decode cX12_done 117 = .ok (.ifCond .ne 18, 3) := by decide +kernel
theorem dX12_done_120 : decode cX12_done 120 = .ok (.aload_n 0, 1) := by decide +kernel
theorem dX12_done_121 : decode cX12_done 121 = .ok (.iconst 1, 1) := by decide +kernel
theorem dX12_done_122 : decode cX12_done 122 = .ok (.putfield 647, 3) := by decide +kernel
theorem dX12_done_125 : decode cX12_done 125 = .ok (.aload_n 0, 1) := by decide +kernel
theorem dX12_done_126 : decode cX12_done 126 = .ok (.iconst 1, 1) := by decide +kernel
theorem dX12_done_127 : decode cX12_done 127 = .ok (.putfield 635, 3) := by decide +kernel
theorem dX12_done_130 : decode cX12_done 130 = .ok (.aload_n 0, 1) := by decide +kernel
theorem dX12_done_131 : decode cX12_done 131 = .ok (.iconst 1, 1) := by decide +kernel
theorem dX12_done_132 : decode cX12_done 132 = .ok (.putfield 610, 3) := by decide +kernel
theorem dX12_done_135 : decode cX12_done 135 = .ok (.aload_n 0, 1) := by decide +kernel
theorem dX12_done_136 : decode cX12_done 136 = .ok (.getfield 635, 3) := by decide +kernel
theorem dX12_done_139 : decode cX12_done 139 = .ok (.ifCond .eq 16, 3) := by decide +kernel
theorem dX12_done_142 : decode cX12_done 142 = .ok (.aload_n 0, 1) := by decide +kernel
theorem dX12_done_143 : decode cX12_done 143 = .ok (.iload_n 3, 1) := by decide +kernel
theorem dX12_done_144 : decode cX12_done 144 = .ok (.putfield 629, 3) := by decide +kernel
theorem dX12_done_147 : decode cX12_done 147 = .ok (.aload_n 0, 1) := by decide +kernel
theorem dX12_done_148 : decode cX12_done 148 = .ok (.iload 4, 2) := by decide +kernel
theorem dX12_done_150 : decode cX12_done 150 = .ok (.putfield 638, 3) := by decide +kernel
theorem dX12_done_153 : decode cX12_done 153 = .ok (.iconst 0, 1) := by decide +kernel
theorem dX12_done_154 : decode cX12_done 154 = .ok (.ireturn, 1) := by decide +kernel
theorem dX12_done_155 : decode cX12_done 155 = .ok (.aload_n 0, 1) := by decide +kernel
theorem dX12_done_156 : decode cX12_done 156 = .ok (.dup, 1) := by decide +kernel
theorem dX12_done_157 : decode cX12_done 157 = .ok (.getfield 641, 3) := by decide +kernel
theorem dX12_done_160 : decode cX12_done 160 = .ok (.iconst 1, 1) := by decide +kernel
theorem dX12_done_161 : decode cX12_done 161 = .ok (.isub, 1) := by decide +kernel
theorem dX12_done_162 : decode cX12_done 162 = .ok (.putfield 641, 3) := by decide +kernel
theorem dX12_done_165 : decode cX12_done 165 = .ok (.aload_n 0, 1) := by decide +kernel
theorem dX12_done_166 : decode cX12_done 166 = .ok (.dup, 1) := by decide +kernel
theorem dX12_done_167 : decode cX12_done 167 = .ok (.getfield 650, 3) := by decide +kernel
theorem dX12_done_170 : decode cX12_done 170 = .ok (.iconst 1, 1) := by decide +kernel
theorem dX12_done_171 : decode cX12_done 171 = .ok (.iadd, 1) := by decide +kernel
theorem dX12_done_172 : decode cX12_done 172 = .ok (.putfield 650, 3) := by decide +kernel
theorem dX12_done_175 : decode cX12_done 175 = .ok (.aload_n 0, 1) := by decide +kernel
theorem dX12_done_176 : decode cX12_done 176 = .ok (.dup, 1) := by decide +kernel
theorem dX12_done_177 : decode cX12_done 177 = .ok (.getfield 644, 3) := by decide +kernel
theorem dX12_done_180 : decode cX12_done 180 = .ok (.iconst 1, 1) := by decide +kernel
theorem dX12_done_181 : decode cX12_done 181 = .ok (.isub, 1) := by decide +kernel
theorem dX12_done_182 : decode cX12_done 182 = .ok (.putfield 644, 3) := by decide +kernel
theorem dX12_done_185 : decode cX12_done 185 = .ok (.iload 6, 2) := by decide +kernel
theorem dX12_done_187 : decode cX12_done 187 = .ok (.sipush 1000, 3) := by decide +kernel
theorem dX12_done_190 : decode cX12_done 190 = .ok (.if_icmp .ge 17, 3) := by decide +kernel
theorem dX12_done_193 : decode cX12_done 193 = .ok (.sipush 1000, 3) := by decide +kernel
theorem dX12_done_196 : decode cX12_done 196 = .ok (.aload_n 0, 1) := by decide +kernel
theorem dX12_done_197 : decode cX12_done 197 = .ok (.getfield 600, 3) := by decide +kernel
theorem dX12_done_200 : decode cX12_done 200 = .ok (.imul, 1) := by decide +kernel
theorem dX12_done_201 : decode cX12_done 201 = .ok (.iload 6, 2) := by decide +kernel
theorem dX12_done_203 : decode cX12_done 203 = .ok (.iadd, 1) := by decide +kernel
theorem dX12_done_204 : decode cX12_done 204 = .ok (.goto 16, 3) := by decide +kernel
theorem dX12_done_207 : decode cX12_done 207 = .ok (.sipush 1000, 3) := by decide +kernel
theorem dX12_done_210 : decode cX12_done 210 = .ok (.aload_n 0, 1) := by decide +kernel
theorem dX12_done_211 : decode cX12_done 211 = .ok (.getfield 603, 3) := by decide +kernel
theorem dX12_done_214 : decode cX12_done 214 = .ok (.iconst 1, 1) := by decide +kernel
theorem dX12_done_215 : decode cX12_done 215 = .ok (.isub, 1) := by decide +kernel
theorem dX12_done_216 : decode cX12_done 216 = .ok (.imul, 1) := by decide +kernel
theorem dX12_done_217 : decode cX12_done 217 = .ok (.iload 6, 2) := by decide +kernel
theorem dX12_done_219 : decode cX12_done 219 = .ok (.iadd, 1) := by decide +kernel
theorem dX12_done_220 : decode cX12_done 220 = .ok (.istore 7, 2) := by decide +kernel
theorem dX12_done_222 : decode cX12_done 222 = .ok (.aload_n 0, 1) := by decide +kernel
theorem dX12_done_223 : decode cX12_done 223 = .ok (.getfield 653, 3) := by decide +kernel
theorem dX12_done_226 : decode cX12_done 226 = .ok (.ifCond .eq 54, 3) := by decide +kernel
theorem dX12_done_229 : decode cX12_done 229 = .ok (.aload_n 0, 1) := by decide +kernel
theorem dX12_done_230 : decode cX12_done 230 = .ok (.getfield 249, 3) := by decide +kernel
theorem dX12_done_233 : decode cX12_done 233 = .ok (.iload 7, 2) := by decide +kernel
theorem dX12_done_235 : decode cX12_done 235 = .ok (.dup2, 1) := by decide +kernel
theorem dX12_done_236 : decode cX12_done 236 = .ok (.iaload, 1) := by decide +kernel
theorem dX12_done_237 : decode cX12_done 237 = .ok (.iconst 1, 1) := by decide +kernel
theorem dX12_done_238 : decode cX12_done 238 = .ok (.iadd, 1) := by decide +kernel
theorem dX12_done_239 : decode cX12_done 239 = .ok (.iastore, 1) := by decide +kernel
theorem dX12_done_240 : decode cX12_done 240 = .ok (.aload_n 0, 1) := by decide +kernel
theorem dX12_done_241 : decode cX12_done 241 = .ok (.getfield 252, 3) := by decide +kernel
theorem dX12_done_244 : decode cX12_done 244 = .ok (.iload 7, 2) := by decide +kernel
theorem dX12_done_246 : decode cX12_done 246 = .ok (.dup2, 1) := by decide +kernel
theorem dX12_done_247 : decode cX12_done 247 = .ok (.iaload, 1) := by decide +kernel
theorem dX12_done_248 : decode cX12_done 248 = .ok (.aload_n 0, 1) := by decide +kernel
theorem dX12_done_249 : decode cX12_done 249 = .ok (.getfield 255, 3) := by decide +kernel
theorem dX12_done_252 : decode cX12_done 252 = .ok (.iload 7, 2) := by decide +kernel
theorem dX12_done_254 : decode cX12_done 254 = .ok (.iaload, 1) := by decide +kernel
theorem dX12_done_255 : decode cX12_done 255 = .ok (.aload_n 0, 1) := by decide +kernel
theorem dX12_done_256 : decode cX12_done 256 = .ok (.getfield 656, 3) := by decide +kernel
theorem dX12_done_259 : decode cX12_done 259 = .ok (.if_icmp .ne 7, 3) := by decide +kernel
theorem dX12_done_262 : decode cX12_done 262 = .ok (.iconst 0, 1) := by decide +kernel
theorem dX12_done_263 : decode cX12_done 263 = .ok (.goto 4, 3) := by decide +kernel
theorem dX12_done_266 : decode cX12_done 266 = .ok (.iconst 1, 1) := by decide +kernel
theorem dX12_done_267 : decode cX12_done 267 = .ok (.iadd, 1) := by decide +kernel
theorem dX12_done_268 : decode cX12_done 268 = .ok (.iastore, 1) := by decide +kernel
theorem dX12_done_269 : decode cX12_done 269 = .ok (.aload_n 0, 1) := by decide +kernel
theorem dX12_done_270 : decode cX12_done 270 = .ok (.getfield 255, 3) := by decide +kernel
theorem dX12_done_273 : decode cX12_done 273 = .ok (.iload 7, 2) := by decide +kernel
theorem dX12_done_275 : decode cX12_done 275 = .ok (.aload_n 0, 1) := by decide +kernel
theorem dX12_done_276 : decode cX12_done 276 = .ok (.getfield 656, 3) := by decide +kernel
theorem dX12_done_279 : decode cX12_done 279 = .ok (.iastore, 1) := by decide +kernel
theorem dX12_done_280 : decode cX12_done 280 = .ok (.iload 6, 2) := by decide +kernel
theorem dX12_done_282 : decode cX12_done 282 = .ok (.aload_n 0, 1) := by decide +kernel
theorem dX12_done_283 : decode cX12_done 283 = .ok (.getfield 246, 3) := by decide +kernel
theorem dX12_done_286 : decode cX12_done 286 = .ok (.if_icmp .ne 7, 3) := by decide +kernel
theorem dX12_done_289 : decode cX12_done 289 = .ok (.iconst 1, 1) := by decide +kernel
theorem dX12_done_290 : decode cX12_done 290 = .ok (.goto 4, 3) := by decide +kernel
theorem dX12_done_293 : decode cX12_done 293 = .ok (.iconst 0, 1) := by decide +kernel
theorem dX12_done_294 : decode cX12_done 294 = .ok (.istore 8, 2) := by decide +kernel
theorem dX12_done_296 : decode cX12_done 296 = .ok (.iload 8, 2) := by decide +kernel
theorem dX12_done_298 : decode cX12_done 298 = .ok (.ifCond .eq 16, 3) := by decide +kernel
theorem dX12_done_301 : decode cX12_done 301 = .ok (.aload_n 0, 1) := by decide +kernel
theorem dX12_done_302 : decode cX12_done 302 = .ok (.getfield 97, 3) := by decide +kernel
theorem dX12_done_305 : decode cX12_done 305 = .ok (.iload 7, 2) := by decide +kernel
theorem dX12_done_307 : decode cX12_done 307 = .ok (.baload, 1) := by decide +kernel
theorem dX12_done_308 : decode cX12_done 308 = .ok (.invokestatic 597, 3) := by decide +kernel
theorem dX12_done_311 : decode cX12_done 311 = .ok (.goto 10, 3) := by decide +kernel
theorem dX12_done_314 : decode cX12_done 314 = .ok (.aload_n 0, 1) := by decide +kernel
theorem dX12_done_315 : decode cX12_done 315 = .ok (.getfield 97, 3) := by decide +kernel
theorem dX12_done_318 : decode cX12_done 318 = .ok (.iload 7, 2) := by decide +kernel
theorem dX12_done_320 : decode cX12_done 320 = .ok (.baload, 1) := by decide +kernel
theorem dX12_done_321 : decode cX12_done 321 = .ok (.istore 9, 2) := by decide +kernel
theorem dX12_done_323 : decode cX12_done 323 = .ok (.iload 8, 2) := by decide +kernel
theorem dX12_done_325 : decode cX12_done 325 = .ok (.ifCond .eq 20, 3) := by decide +kernel
theorem dX12_done_328 : decode cX12_done 328 = .ok (.iload 9, 2) := by decide +kernel
theorem dX12_done_330 : decode cX12_done 330 = .ok (.ifCond .ne 15, 3) := by decide +kernel
theorem dX12_done_333 : decode cX12_done 333 = .ok (.aload_n 0, 1) := by decide +kernel
theorem dX12_done_334 : decode cX12_done 334 = .ok (.getfield 100, 3) := by decide +kernel
theorem dX12_done_337 : decode cX12_done 337 = .ok (.iload 7, 2) := by decide +kernel
theorem dX12_done_339 : decode cX12_done 339 = .ok (.iaload, 1) := by decide +kernel
theorem dX12_done_340 : decode cX12_done 340 = .ok (.iconst 1, 1) := by decide +kernel
theorem dX12_done_341 : decode cX12_done 341 = .ok (.iadd, 1) := by decide +kernel
theorem dX12_done_342 : decode cX12_done 342 = .ok (.goto 10, 3) := by decide +kernel
theorem dX12_done_345 : decode cX12_done 345 = .ok (.aload_n 0, 1) := by decide +kernel
theorem dX12_done_346 : decode cX12_done 346 = .ok (.getfield 100, 3) := by decide +kernel
theorem dX12_done_349 : decode cX12_done 349 = .ok (.iload 7, 2) := by decide +kernel
theorem dX12_done_351 : decode cX12_done 351 = .ok (.iaload, 1) := by decide +kernel
theorem dX12_done_352 : decode cX12_done 352 = .ok (.istore 10, 2) := by decide +kernel
theorem dX12_done_354 : decode cX12_done 354 = .ok (.iload 6, 2) := by decide +kernel
theorem dX12_done_356 : decode cX12_done 356 = .ok (.iconst 1, 1) := by decide +kernel
theorem dX12_done_357 : decode cX12_done 357 = .ok (.iadd, 1) := by decide +kernel
theorem dX12_done_358 : decode cX12_done 358 = .ok (.istore 11, 2) := by decide +kernel
theorem dX12_done_360 : decode cX12_done 360 = .ok (.iload 9, 2) := by decide +kernel
theorem dX12_done_362 : decode cX12_done 362 = .ok (.tableswitch 354 1 34 #[150, 169, 354, 354, 354, 354, 354, 323, 354, 354, 354, 354, 354, 354, 354, 354, 354, 354, 354, 354, 354, 354, 354, 188, 258, 281, 317, 354, 354, 354, 223, 354, 354, 323], 150) := by decide +kernel
theorem dX12_done_512 : decode cX12_done 512 = .ok (.aload_n 0, 1) := by decide +kernel
theorem dX12_done_513 : decode cX12_done 513 = .ok (.aload_n 0, 1) := by decide +kernel
theorem dX12_done_514 : decode cX12_done 514 = .ok (.getfield 233, 3) := by decide +kernel
theorem dX12_done_517 : decode cX12_done 517 = .ok (.bipush 10, 2) := by decide +kernel
theorem dX12_done_519 : decode cX12_done 519 = .ok (.iload_n 3, 1) := by decide +kernel
theorem dX12_done_520 : decode cX12_done 520 = .ok (.imul, 1) := by decide +kernel
theorem dX12_done_521 : decode cX12_done 521 = .ok (.iload 10, 2) := by decide +kernel
theorem dX12_done_523 : decode cX12_done 523 = .ok (.iadd, 1) := by decide +kernel
theorem dX12_done_524 : decode cX12_done 524 = .ok (.iaload, 1) := by decide +kernel
theorem dX12_done_525 : decode cX12_done 525 = .ok (.invokevirtual 659, 3) := by decide +kernel
theorem dX12_done_528 : decode cX12_done 528 = .ok (.goto 198, 3) := by decide +kernel
theorem dX12_done_531 : decode cX12_done 531 = .ok (.aload_n 0, 1) := by decide +kernel
theorem dX12_done_532 : decode cX12_done 532 = .ok (.getfield 233, 3) := by decide +kernel
theorem dX12_done_535 : decode cX12_done 535 = .ok (.bipush 10, 2) := by decide +kernel
theorem dX12_done_537 : decode cX12_done 537 = .ok (.iload_n 3, 1) := by decide +kernel
theorem dX12_done_538 : decode cX12_done 538 = .ok (.imul, 1) := by decide +kernel
theorem dX12_done_539 : decode cX12_done 539 = .ok (.iload 10, 2) := by decide +kernel
theorem dX12_done_541 : decode cX12_done 541 = .ok (.iadd, 1) := by decide +kernel
theorem dX12_done_542 : decode cX12_done 542 = .ok (.aload_n 0, 1) := by decide +kernel
theorem dX12_done_543 : decode cX12_done 543 = .ok (.invokevirtual 662, 3) := by decide +kernel
theorem dX12_done_546 : decode cX12_done 546 = .ok (.iastore, 1) := by decide +kernel
theorem dX12_done_547 : decode cX12_done 547 = .ok (.goto 179, 3) := by decide +kernel
theorem dX12_done_550 : decode cX12_done 550 = .ok (.aload_n 0, 1) := by decide +kernel
theorem dX12_done_551 : decode cX12_done 551 = .ok (.invokevirtual 662, 3) := by decide +kernel
theorem dX12_done_554 : decode cX12_done 554 = .ok (.ifCond .ne 24, 3) := by decide +kernel
theorem dX12_done_557 : decode cX12_done 557 = .ok (.iload 10, 2) := by decide +kernel
theorem dX12_done_559 : decode cX12_done 559 = .ok (.iload 6, 2) := by decide +kernel
theorem dX12_done_561 : decode cX12_done 561 = .ok (.sipush 1000, 3) := by decide +kernel
theorem dX12_done_564 : decode cX12_done 564 = .ok (.if_icmp .ge 7, 3) := by decide +kernel
theorem dX12_done_567 : decode cX12_done 567 = .ok (.iconst 0, 1) := by decide +kernel
theorem dX12_done_568 : decode cX12_done 568 = .ok (.goto 6, 3) := by decide +kernel
theorem dX12_done_571 : decode cX12_done 571 = .ok (.sipush 1000, 3) := by decide +kernel
theorem dX12_done_574 : decode cX12_done 574 = .ok (.iadd, 1) := by decide +kernel
theorem dX12_done_575 : decode cX12_done 575 = .ok (.goto 5, 3) := by decide +kernel
theorem dX12_done_578 : decode cX12_done 578 = .ok (.iload 11, 2) := by decide +kernel
theorem dX12_done_580 : decode cX12_done 580 = .ok (.istore 11, 2) := by decide +kernel
theorem dX12_done_582 : decode cX12_done 582 = .ok (.goto 144, 3) := by decide +kernel
theorem dX12_done_585 : decode cX12_done 585 = .ok (.aload_n 0, 1) := by decide +kernel
theorem dX12_done_586 : decode cX12_done 586 = .ok (.invokevirtual 662, 3) := by decide +kernel
theorem dX12_done_589 : decode cX12_done 589 = .ok (.ifCond .eq 24, 3) := by decide +kernel
theorem dX12_done_592 : decode cX12_done 592 = .ok (.iload 10, 2) := by decide +kernel
theorem dX12_done_594 : decode cX12_done 594 = .ok (.iload 6, 2) := by decide +kernel
theorem dX12_done_596 : decode cX12_done 596 = .ok (.sipush 1000, 3) := by decide +kernel
theorem dX12_done_599 : decode cX12_done 599 = .ok (.if_icmp .ge 7, 3) := by decide +kernel
theorem dX12_done_602 : decode cX12_done 602 = .ok (.iconst 0, 1) := by decide +kernel
theorem dX12_done_603 : decode cX12_done 603 = .ok (.goto 6, 3) := by decide +kernel
theorem dX12_done_606 : decode cX12_done 606 = .ok (.sipush 1000, 3) := by decide +kernel
theorem dX12_done_609 : decode cX12_done 609 = .ok (.iadd, 1) := by decide +kernel
theorem dX12_done_610 : decode cX12_done 610 = .ok (.goto 5, 3) := by decide +kernel
theorem dX12_done_613 : decode cX12_done 613 = .ok (.iload 11, 2) := by decide +kernel
theorem dX12_done_615 : decode cX12_done 615 = .ok (.istore 11, 2) := by decide +kernel
theorem dX12_done_617 : decode cX12_done 617 = .ok (.goto 109, 3) := by decide +kernel
theorem dX12_done_620 : decode cX12_done 620 = .ok (.iload 10, 2) := by decide +kernel
theorem dX12_done_622 : decode cX12_done 622 = .ok (.iload 6, 2) := by decide +kernel
theorem dX12_done_624 : decode cX12_done 624 = .ok (.sipush 1000, 3) := by decide +kernel
theorem dX12_done_627 : decode cX12_done 627 = .ok (.if_icmp .ge 7, 3) := by decide +kernel
theorem dX12_done_630 : decode cX12_done 630 = .ok (.iconst 0, 1) := by decide +kernel
theorem dX12_done_631 : decode cX12_done 631 = .ok (.goto 6, 3) := by decide +kernel
theorem dX12_done_634 : decode cX12_done 634 = .ok (.sipush 1000, 3) := by decide +kernel
theorem dX12_done_637 : decode cX12_done 637 = .ok (.iadd, 1) := by decide +kernel
theorem dX12_done_638 : decode cX12_done 638 = .ok (.istore 11, 2) := by decide +kernel
theorem dX12_done_640 : decode cX12_done 640 = .ok (.goto 86, 3) := by decide +kernel
theorem dX12_done_643 : decode cX12_done 643 = .ok (.aload_n 0, 1) := by decide +kernel
theorem dX12_done_644 : decode cX12_done 644 = .ok (.getfield 236, 3) := by decide +kernel
theorem dX12_done_647 : decode cX12_done 647 = .ok (.bipush 25, 2) := by decide +kernel
theorem dX12_done_649 : decode cX12_done 649 = .ok (.iload_n 3, 1) := by decide +kernel
theorem dX12_done_650 : decode cX12_done 650 = .ok (.imul, 1) := by decide +kernel
theorem dX12_done_651 : decode cX12_done 651 = .ok (.iload 5, 2) := by decide +kernel
theorem dX12_done_653 : decode cX12_done 653 = .ok (.iadd, 1) := by decide +kernel
theorem dX12_done_654 : decode cX12_done 654 = .ok (.iload 10, 2) := by decide +kernel
theorem dX12_done_656 : decode cX12_done 656 = .ok (.iload 6, 2) := by decide +kernel
theorem dX12_done_658 : decode cX12_done 658 = .ok (.sipush 1000, 3) := by decide +kernel
theorem dX12_done_661 : decode cX12_done 661 = .ok (.if_icmp .ge 7, 3) := by decide +kernel
theorem dX12_done_664 : decode cX12_done 664 = .ok (.iconst 0, 1) := by decide +kernel
theorem dX12_done_665 : decode cX12_done 665 = .ok (.goto 6, 3) := by decide +kernel
theorem dX12_done_668 : decode cX12_done 668 = .ok (.sipush 1000, 3) := by decide +kernel
theorem dX12_done_671 : decode cX12_done 671 = .ok (.iadd, 1) := by decide +kernel
theorem dX12_done_672 : decode cX12_done 672 = .ok (.iastore, 1) := by decide +kernel
theorem dX12_done_673 : decode cX12_done 673 = .ok (.iinc 5 1, 3) := by decide +kernel
theorem dX12_done_676 : decode cX12_done 676 = .ok (.goto 50, 3) := by decide +kernel
theorem dX12_done_679 : decode cX12_done 679 = .ok (.iinc 5 (-1), 3) := by decide +kernel
theorem dX12_done_682 : decode cX12_done 682 = .ok (.goto 44, 3) := by decide +kernel
theorem dX12_done_685 : decode cX12_done 685 = .ok (.aload_n 0, 1) := by decide +kernel
theorem dX12_done_686 : decode cX12_done 686 = .ok (.invokevirtual 662, 3) := by decide +kernel
theorem dX12_done_689 : decode cX12_done 689 = .ok (.istore 12, 2) := by decide +kernel
theorem dX12_done_691 : decode cX12_done 691 = .ok (.aload_n 0, 1) := by decide +kernel
theorem dX12_done_692 : decode cX12_done 692 = .ok (.iload_n 3, 1) := by decide +kernel
theorem dX12_done_693 : decode cX12_done 693 = .ok (.putfield 629, 3) := by decide +kernel
theorem dX12_done_696 : decode cX12_done 696 = .ok (.aload_n 0, 1) := by decide +kernel
theorem dX12_done_697 : decode cX12_done 697 = .ok (.iload 4, 2) := by decide +kernel
theorem dX12_done_699 : decode cX12_done 699 = .ok (.putfield 638, 3) := by decide +kernel
theorem dX12_done_702 : decode cX12_done 702 = .ok (.iload 9, 2) := by decide +kernel
theorem dX12_done_704 : decode cX12_done 704 = .ok (.bipush 34, 2) := by decide +kernel
theorem dX12_done_706 : decode cX12_done 706 = .ok (.if_icmp .ne 7, 3) := by decide +kernel
theorem dX12_done_709 : decode cX12_done 709 = .ok (.iconst 0, 1) := by decide +kernel
theorem dX12_done_710 : decode cX12_done 710 = .ok (.goto 5, 3) := by decide +kernel
theorem dX12_done_713 : decode cX12_done 713 = .ok (.iload 12, 2) := by decide +kernel
theorem dX12_done_715 : decode cX12_done 715 = .ok (.ireturn, 1) := by decide +kernel
theorem dX12_done_716 : decode cX12_done 716 = .ok (.aload_n 0, 1) := by decide +kernel
theorem dX12_done_717 : decode cX12_done 717 = .ok (.iload 9, 2) := by decide +kernel
theorem dX12_done_719 : decode cX12_done 719 = .ok (.iload 10, 2) := by decide +kernel
theorem dX12_done_721 : decode cX12_done 721 = .ok (.iload 6, 2) := by decide +kernel
theorem dX12_done_723 : decode cX12_done 723 = .ok (.invokevirtual 665, 3) := by decide +kernel
theorem dX12_done_726 : decode cX12_done 726 = .ok (.aload_n 0, 1) := by decide +kernel
theorem dX12_done_727 : decode cX12_done 727 = .ok (.getfield 635, 3) := by decide +kernel
theorem dX12_done_730 : decode cX12_done 730 = .ok (.ifCond .eq 16, 3) := by decide +kernel
theorem dX12_done_733 : decode cX12_done 733 = .ok (.aload_n 0, 1) := by decide +kernel
theorem dX12_done_734 : decode cX12_done 734 = .ok (.iload_n 3, 1) := by decide +kernel
theorem dX12_done_735 : decode cX12_done 735 = .ok (.putfield 629, 3) := by decide +kernel
theorem dX12_done_738 : decode cX12_done 738 = .ok (.aload_n 0, 1) := by decide +kernel
theorem dX12_done_739 : decode cX12_done 739 = .ok (.iload 4, 2) := by decide +kernel
theorem dX12_done_741 : decode cX12_done 741 = .ok (.putfield 638, 3) := by decide +kernel
theorem dX12_done_744 : decode cX12_done 744 = .ok (.iconst 0, 1) := by decide +kernel
theorem dX12_done_745 : decode cX12_done 745 = .ok (.ireturn, 1) := by decide +kernel
theorem dX12_done_746 : decode cX12_done 746 = .ok (.aload_n 0, 1) := by decide +kernel
theorem dX12_done_747 : decode cX12_done 747 = .ok (.getfield 610, 3) := by decide +kernel
theorem dX12_done_750 : decode cX12_done 750 = .ok (.ifCond .eq 65, 3) := by decide +kernel
theorem dX12_done_753 : decode cX12_done 753 = .ok (.aload_n 0, 1) := by decide +kernel
theorem dX12_done_754 : decode cX12_done 754 = .ok (.iload 4, 2) := by decide +kernel
theorem dX12_done_756 : decode cX12_done 756 = .ok (.putfield 638, 3) := by decide +kernel
theorem dX12_done_759 : decode cX12_done 759 = .ok (.aload_n 0, 1) := by decide +kernel
theorem dX12_done_760 : decode cX12_done 760 = .ok (.iload_n 3, 1) := by decide +kernel
theorem dX12_done_761 : decode cX12_done 761 = .ok (.iconst 1, 1) := by decide +kernel
theorem dX12_done_762 : decode cX12_done 762 = .ok (.iadd, 1) := by decide +kernel
theorem dX12_done_763 : decode cX12_done 763 = .ok (.putfield 629, 3) := by decide +kernel
theorem dX12_done_766 : decode cX12_done 766 = .ok (.aload_n 0, 1) := by decide +kernel
theorem dX12_done_767 : decode cX12_done 767 = .ok (.getfield 619, 3) := by decide +kernel
theorem dX12_done_770 : decode cX12_done 770 = .ok (.ifCond .ne 8, 3) := by decide +kernel
theorem dX12_done_773 : decode cX12_done 773 = .ok (.iload 5, 2) := by decide +kernel
theorem dX12_done_775 : decode cX12_done 775 = .ok (.ifCond .ne 10, 3) := by decide +kernel
theorem dX12_done_778 : decode cX12_done 778 = .ok (.aload_n 0, 1) := by decide +kernel
theorem dX12_done_779 : decode cX12_done 779 = .ok (.iload_n 3, 1) := by decide +kernel
theorem dX12_done_780 : decode cX12_done 780 = .ok (.putfield 629, 3) := by decide +kernel
theorem dX12_done_783 : decode cX12_done 783 = .ok (.iconst 0, 1) := by decide +kernel
theorem dX12_done_784 : decode cX12_done 784 = .ok (.ireturn, 1) := by decide +kernel
theorem dX12_done_785 : decode cX12_done 785 = .ok (.aload_n 0, 1) := by decide +kernel
theorem dX12_done_786 : decode cX12_done 786 = .ok (.iconst 0, 1) := by decide +kernel
theorem dX12_done_787 : decode cX12_done 787 = .ok (.putfield 610, 3) := by decide +kernel
theorem dX12_done_790 : decode cX12_done 790 = .ok (.iinc 5 (-1), 3) := by decide +kernel
theorem dX12_done_793 : decode cX12_done 793 = .ok (.aload_n 0, 1) := by decide +kernel
theorem dX12_done_794 : decode cX12_done 794 = .ok (.aload_n 0, 1) := by decide +kernel
theorem dX12_done_795 : decode cX12_done 795 = .ok (.getfield 613, 3) := by decide +kernel
theorem dX12_done_798 : decode cX12_done 798 = .ok (.invokevirtual 659, 3) := by decide +kernel
theorem dX12_done_801 : decode cX12_done 801 = .ok (.aload_n 0, 1) := by decide +kernel
theorem dX12_done_802 : decode cX12_done 802 = .ok (.getfield 236, 3) := by decide +kernel
theorem dX12_done_805 : decode cX12_done 805 = .ok (.bipush 25, 2) := by decide +kernel
theorem dX12_done_807 : decode cX12_done 807 = .ok (.iload_n 3, 1) := by decide +kernel
theorem dX12_done_808 : decode cX12_done 808 = .ok (.imul, 1) := by decide +kernel
theorem dX12_done_809 : decode cX12_done 809 = .ok (.iload 5, 2) := by decide +kernel
theorem dX12_done_811 : decode cX12_done 811 = .ok (.iadd, 1) := by decide +kernel
theorem dX12_done_812 : decode cX12_done 812 = .ok (.iaload, 1) := by decide +kernel
theorem dX12_done_813 : decode cX12_done 813 = .ok (.istore 11, 2) := by decide +kernel
theorem dX12_done_815 : decode cX12_done 815 = .ok (.iload 11, 2) := by decide +kernel
theorem dX12_done_817 : decode cX12_done 817 = .ok (.istore 6, 2) := by decide +kernel
theorem dX12_done_819 : decode cX12_done 819 = .ok (.goto (-730), 3) := by decide +kernel
theorem dX12_act_0 : decode cX12_act 0 = .ok (.iload_n 1, 1) := by decide +kernel
theorem dX12_act_1 : decode cX12_act 1 = .ok (.ifCond .ne 11, 3) := by decide +kernel
theorem dX12_act_4 : decode cX12_act 4 = .ok (.aload_n 0, 1) := by decide +kernel
theorem dX12_act_5 : decode cX12_act 5 = .ok (.iload_n 2, 1) := by decide +kernel
theorem dX12_act_6 : decode cX12_act 6 = .ok (.invokevirtual 659, 3) := by decide +kernel
theorem dX12_act_9 : decode cX12_act 9 = .ok (.goto 67, 3) := by decide +kernel
theorem dX12_act_12 : decode cX12_act 12 = .ok (.iload_n 1, 1) := by decide +kernel
theorem dX12_act_13 : decode cX12_act 13 = .ok (.bipush 10, 2) := by decide +kernel
theorem dX12_act_15 : decode cX12_act 15 = .ok (.if_icmp .lt 34, 3) := by decide +kernel
theorem dX12_act_18 : decode cX12_act 18 = .ok (.iload_n 1, 1) := by decide +kernel
theorem dX12_act_19 : decode cX12_act 19 = .ok (.bipush 20, 2) := by decide +kernel
theorem dX12_act_21 : decode cX12_act 21 = .ok (.if_icmp .gt 28, 3) := by decide +kernel
theorem dX12_act_24 : decode cX12_act 24 = .ok (.aload_n 0, 1) := by decide +kernel
theorem dX12_act_25 : decode cX12_act 25 = .ok (.invokevirtual 662, 3) := by decide +kernel
theorem dX12_act_28 : decode cX12_act 28 = .ok (.istore 4, 2) := by decide +kernel
theorem dX12_act_30 : decode cX12_act 30 = .ok (.aload_n 0, 1) := by decide +kernel
theorem dX12_act_31 : decode cX12_act 31 = .ok (.invokevirtual 662, 3) := by decide +kernel
theorem dX12_act_34 : decode cX12_act 34 = .ok (.istore 5, 2) := by decide +kernel
theorem dX12_act_36 : decode cX12_act 36 = .ok (.aload_n 0, 1) := by decide +kernel
theorem dX12_act_37 : decode cX12_act 37 = .ok (.iload_n 1, 1) := by decide +kernel
theorem dX12_act_38 : decode cX12_act 38 = .ok (.iload 5, 2) := by decide +kernel
theorem dX12_act_40 : decode cX12_act 40 = .ok (.iload 4, 2) := by decide +kernel
theorem dX12_act_42 : decode cX12_act 42 = .ok (.iload_n 3, 1) := by decide +kernel
theorem dX12_act_43 : decode cX12_act 43 = .ok (.invokevirtual 668, 3) := by decide +kernel
theorem dX12_act_46 : decode cX12_act 46 = .ok (.goto 30, 3) := by decide +kernel
theorem dX12_act_49 : decode cX12_act 49 = .ok (.iload_n 1, 1) := by decide +kernel
theorem dX12_act_50 : decode cX12_act 50 = .ok (.iconst 3, 1) := by decide +kernel
theorem dX12_act_51 : decode cX12_act 51 = .ok (.if_icmp .lt 18, 3) := by decide +kernel
theorem dX12_act_54 : decode cX12_act 54 = .ok (.iload_n 1, 1) := by decide +kernel
theorem dX12_act_55 : decode cX12_act 55 = .ok (.bipush 7, 2) := by decide +kernel
theorem dX12_act_57 : decode cX12_act 57 = .ok (.if_icmp .gt 12, 3) := by decide +kernel
theorem dX12_act_60 : decode cX12_act 60 = .ok (.aload_n 0, 1) := by decide +kernel
theorem dX12_act_61 : decode cX12_act 61 = .ok (.iload_n 1, 1) := by decide +kernel
theorem dX12_act_62 : decode cX12_act 62 = .ok (.iload_n 3, 1) := by decide +kernel
theorem dX12_act_63 : decode cX12_act 63 = .ok (.invokevirtual 672, 3) := by decide +kernel
theorem dX12_act_66 : decode cX12_act 66 = .ok (.goto 10, 3) := by decide +kernel
theorem dX12_act_69 : decode cX12_act 69 = .ok (.aload_n 0, 1) := by decide +kernel
theorem dX12_act_70 : decode cX12_act 70 = .ok (.iload_n 1, 1) := by decide +kernel
theorem dX12_act_71 : decode cX12_act 71 = .ok (.iload_n 2, 1) := by decide +kernel
theorem dX12_act_72 : decode cX12_act 72 = .ok (.iload_n 3, 1) := by decide +kernel
theorem dX12_act_73 : decode cX12_act 73 = .ok (.invokevirtual 674, 3) := by decide +kernel
theorem dX12_act_76 : decode cX12_act 76 = .ok (.return_, 1) := by decide +kernel
theorem dX12_truth_0 : decode cX12_truth 0 = .ok (.iload_n 0, 1) := by decide +kernel
theorem dX12_truth_1 : decode cX12_truth 1 = .ok (.ifCond .eq 7, 3) := by decide +kernel
theorem dX12_truth_4 : decode cX12_truth 4 = .ok (.iconst 1, 1) := by decide +kernel
theorem dX12_truth_5 : decode cX12_truth 5 = .ok (.goto 4, 3) := by decide +kernel
theorem dX12_truth_8 : decode cX12_truth 8 = .ok (.iconst 0, 1) := by decide +kernel
theorem dX12_truth_9 : decode cX12_truth 9 = .ok (.ireturn, 1) := by decide +kernel
theorem dX12_two_0 : decode cX12_two 0 = .ok (.iload_n 1, 1) := by decide +kernel
theorem dX12_two_1 : decode cX12_two 1 = .ok (.tableswitch 225 10 19 #[55, 65, 75, 85, 85, 122, 142, 162, 182, 202], 55) := by decide +kernel
theorem dX12_two_56 : decode cX12_two 56 = .ok (.aload_n 0, 1) := by decide +kernel
theorem dX12_two_57 : decode cX12_two 57 = .ok (.iload_n 2, 1) := by decide +kernel
theorem dX12_two_58 : decode cX12_two 58 = .ok (.iload_n 3, 1) := by decide +kernel
theorem dX12_two_59 : decode cX12_two 59 = .ok (.iadd, 1) := by decide +kernel
theorem dX12_two_60 : decode cX12_two 60 = .ok (.invokevirtual 659, 3) := by decide +kernel
theorem dX12_two_63 : decode cX12_two 63 = .ok (.goto 183, 3) := by decide +kernel
theorem dX12_two_66 : decode cX12_two 66 = .ok (.aload_n 0, 1) := by decide +kernel
theorem dX12_two_67 : decode cX12_two 67 = .ok (.iload_n 2, 1) := by decide +kernel
theorem dX12_two_68 : decode cX12_two 68 = .ok (.iload_n 3, 1) := by decide +kernel
theorem dX12_two_69 : decode cX12_two 69 = .ok (.isub, 1) := by decide +kernel
theorem dX12_two_70 : decode cX12_two 70 = .ok (.invokevirtual 659, 3) := by decide +kernel
theorem dX12_two_73 : decode cX12_two 73 = .ok (.goto 173, 3) := by decide +kernel
theorem dX12_two_76 : decode cX12_two 76 = .ok (.aload_n 0, 1) := by decide +kernel
theorem dX12_two_77 : decode cX12_two 77 = .ok (.iload_n 2, 1) := by decide +kernel
theorem dX12_two_78 : decode cX12_two 78 = .ok (.iload_n 3, 1) := by decide +kernel
theorem dX12_two_79 : decode cX12_two 79 = .ok (.imul, 1) := by decide +kernel
theorem dX12_two_80 : decode cX12_two 80 = .ok (.invokevirtual 659, 3) := by decide +kernel
theorem dX12_two_83 : decode cX12_two 83 = .ok (.goto 163, 3) := by decide +kernel
theorem dX12_two_86 : decode cX12_two 86 = .ok (.iload_n 3, 1) := by decide +kernel
theorem dX12_two_87 : decode cX12_two 87 = .ok (.ifCond .ne 14, 3) := by decide +kernel
theorem dX12_two_90 : decode cX12_two 90 = .ok (.aload_n 0, 1) := by decide +kernel
theorem dX12_two_91 : decode cX12_two 91 = .ok (.iconst 1, 1) := by decide +kernel
theorem dX12_two_92 : decode cX12_two 92 = .ok (.iload 4, 2) := by decide +kernel
theorem dX12_two_94 : decode cX12_two 94 = .ok (.iconst 0, 1) := by decide +kernel
theorem dX12_two_95 : decode cX12_two 95 = .ok (.invokevirtual 625, 3) := by decide +kernel
theorem dX12_two_98 : decode cX12_two 98 = .ok (.goto 148, 3) := by decide +kernel
theorem dX12_two_101 : decode cX12_two 101 = .ok (.aload_n 0, 1) := by decide +kernel
theorem dX12_two_102 : decode cX12_two 102 = .ok (.iload_n 1, 1) := by decide +kernel
theorem dX12_two_103 : decode cX12_two 103 = .ok (.bipush 13, 2) := by decide +kernel
theorem dX12_two_105 : decode cX12_two 105 = .ok (.if_icmp .ne 9, 3) := by decide +kernel
theorem dX12_two_108 : decode cX12_two 108 = .ok (.iload_n 2, 1) := by decide +kernel
theorem dX12_two_109 : decode cX12_two 109 = .ok (.iload_n 3, 1) := by decide +kernel
theorem dX12_two_110 : decode cX12_two 110 = .ok (.idiv, 1) := by decide +kernel
theorem dX12_two_111 : decode cX12_two 111 = .ok (.goto 6, 3) := by decide +kernel
theorem dX12_two_114 : decode cX12_two 114 = .ok (.iload_n 2, 1) := by decide +kernel
theorem dX12_two_115 : decode cX12_two 115 = .ok (.iload_n 3, 1) := by decide +kernel
theorem dX12_two_116 : decode cX12_two 116 = .ok (.irem, 1) := by decide +kernel
theorem dX12_two_117 : decode cX12_two 117 = .ok (.invokevirtual 659, 3) := by decide +kernel
theorem dX12_two_120 : decode cX12_two 120 = .ok (.goto 126, 3) := by decide +kernel
theorem dX12_two_123 : decode cX12_two 123 = .ok (.aload_n 0, 1) := by decide +kernel
theorem dX12_two_124 : decode cX12_two 124 = .ok (.iload_n 2, 1) := by decide +kernel
theorem dX12_two_125 : decode cX12_two 125 = .ok (.iload_n 3, 1) := by decide +kernel
theorem dX12_two_126 : decode cX12_two 126 = .ok (.if_icmp .ge 7, 3) := by decide +kernel
theorem dX12_two_129 : decode cX12_two 129 = .ok (.iconst 1, 1) := by decide +kernel
theorem dX12_two_130 : decode cX12_two 130 = .ok (.goto 4, 3) := by decide +kernel
theorem dX12_two_133 : decode cX12_two 133 = .ok (.iconst 0, 1) := by decide +kernel
theorem dX12_two_134 : decode cX12_two 134 = .ok (.invokestatic 677, 3) := by decide +kernel
theorem dX12_two_137 : decode cX12_two 137 = .ok (.invokevirtual 659, 3) := by decide +kernel
theorem dX12_two_140 : decode cX12_two 140 = .ok (.goto 106, 3) := by decide +kernel
theorem dX12_two_143 : decode cX12_two 143 = .ok (.aload_n 0, 1) := by decide +kernel
theorem dX12_two_144 : decode cX12_two 144 = .ok (.iload_n 2, 1) := by decide +kernel
theorem dX12_two_145 : decode cX12_two 145 = .ok (.iload_n 3, 1) := by decide +kernel
theorem dX12_two_146 : decode cX12_two 146 = .ok (.if_icmp .gt 7, 3) := by decide +kernel
theorem dX12_two_149 : decode cX12_two 149 = .ok (.iconst 1, 1) := by decide +kernel
theorem dX12_two_150 : decode cX12_two 150 = .ok (.goto 4, 3) := by decide +kernel
theorem dX12_two_153 : decode cX12_two 153 = .ok (.iconst 0, 1) := by decide +kernel
theorem dX12_two_154 : decode cX12_two 154 = .ok (.invokestatic 677, 3) := by decide +kernel
theorem dX12_two_157 : decode cX12_two 157 = .ok (.invokevirtual 659, 3) := by decide +kernel
theorem dX12_two_160 : decode cX12_two 160 = .ok (.goto 86, 3) := by decide +kernel
theorem dX12_two_163 : decode cX12_two 163 = .ok (.aload_n 0, 1) := by decide +kernel
theorem dX12_two_164 : decode cX12_two 164 = .ok (.iload_n 2, 1) := by decide +kernel
theorem dX12_two_165 : decode cX12_two 165 = .ok (.iload_n 3, 1) := by decide +kernel
theorem dX12_two_166 : decode cX12_two 166 = .ok (.if_icmp .ne 7, 3) := by decide +kernel
theorem dX12_two_169 : decode cX12_two 169 = .ok (.iconst 1, 1) := by decide +kernel
theorem dX12_two_170 : decode cX12_two 170 = .ok (.goto 4, 3) := by decide +kernel
theorem dX12_two_173 : decode cX12_two 173 = .ok (.iconst 0, 1) := by decide +kernel
theorem dX12_two_174 : decode cX12_two 174 = .ok (.invokestatic 677, 3) := by decide +kernel
theorem dX12_two_177 : decode cX12_two 177 = .ok (.invokevirtual 659, 3) := by decide +kernel
theorem dX12_two_180 : decode cX12_two 180 = .ok (.goto 66, 3) := by decide +kernel
theorem dX12_two_183 : decode cX12_two 183 = .ok (.aload_n 0, 1) := by decide +kernel
theorem dX12_two_184 : decode cX12_two 184 = .ok (.iload_n 2, 1) := by decide +kernel
theorem dX12_two_185 : decode cX12_two 185 = .ok (.iload_n 3, 1) := by decide +kernel
theorem dX12_two_186 : decode cX12_two 186 = .ok (.if_icmp .eq 7, 3) := by decide +kernel
theorem dX12_two_189 : decode cX12_two 189 = .ok (.iconst 1, 1) := by decide +kernel
theorem dX12_two_190 : decode cX12_two 190 = .ok (.goto 4, 3) := by decide +kernel
theorem dX12_two_193 : decode cX12_two 193 = .ok (.iconst 0, 1) := by decide +kernel
theorem dX12_two_194 : decode cX12_two 194 = .ok (.invokestatic 677, 3) := by decide +kernel
theorem dX12_two_197 : decode cX12_two 197 = .ok (.invokevirtual 659, 3) := by decide +kernel
theorem dX12_two_200 : decode cX12_two 200 = .ok (.goto 46, 3) := by decide +kernel
theorem dX12_two_203 : decode cX12_two 203 = .ok (.aload_n 0, 1) := by decide +kernel
theorem dX12_two_204 : decode cX12_two 204 = .ok (.iload_n 2, 1) := by decide +kernel
theorem dX12_two_205 : decode cX12_two 205 = .ok (.ifCond .eq 11, 3) := by decide +kernel
theorem dX12_two_208 : decode cX12_two 208 = .ok (.iload_n 3, 1) := by decide +kernel
theorem dX12_two_209 : decode cX12_two 209 = .ok (.ifCond .eq 7, 3) := by decide +kernel
theorem dX12_two_212 : decode cX12_two 212 = .ok (.iconst 1, 1) := by decide +kernel
theorem dX12_two_213 : decode cX12_two 213 = .ok (.goto 4, 3) := by decide +kernel
theorem dX12_two_216 : decode cX12_two 216 = .ok (.iconst 0, 1) := by decide +kernel
theorem dX12_two_217 : decode cX12_two 217 = .ok (.invokestatic 677, 3) := by decide +kernel
theorem dX12_two_220 : decode cX12_two 220 = .ok (.invokevirtual 659, 3) := by decide +kernel
theorem dX12_two_223 : decode cX12_two 223 = .ok (.goto 23, 3) := by decide +kernel
theorem dX12_two_226 : decode cX12_two 226 = .ok (.aload_n 0, 1) := by decide +kernel
theorem dX12_two_227 : decode cX12_two 227 = .ok (.iload_n 2, 1) := by decide +kernel
theorem dX12_two_228 : decode cX12_two 228 = .ok (.ifCond .ne 7, 3) := by decide +kernel
theorem dX12_two_231 : decode cX12_two 231 = .ok (.iload_n 3, 1) := by decide +kernel
theorem dX12_two_232 : decode cX12_two 232 = .ok (.ifCond .eq 7, 3) := by decide +kernel
theorem dX12_two_235 : decode cX12_two 235 = .ok (.iconst 1, 1) := by decide +kernel
theorem dX12_two_236 : decode cX12_two 236 = .ok (.goto 4, 3) := by decide +kernel
theorem dX12_two_239 : decode cX12_two 239 = .ok (.iconst 0, 1) := by decide +kernel
theorem dX12_two_240 : decode cX12_two 240 = .ok (.invokestatic 677, 3) := by decide +kernel
theorem dX12_two_243 : decode cX12_two 243 = .ok (.invokevirtual 659, 3) := by decide +kernel
theorem dX12_two_246 : decode cX12_two 246 = .ok (.return_, 1) := by decide +kernel
theorem dX12_one_0 : decode cX12_one 0 = .ok (.iload_n 1, 1) := by decide +kernel
theorem dX12_one_1 : decode cX12_one 1 = .ok (.tableswitch 248 9 33 #[115, 248, 248, 248, 248, 248, 248, 248, 248, 248, 248, 248, 141, 163, 236, 248, 248, 248, 248, 206, 223, 248, 248, 175, 128], 115) := by decide +kernel
theorem dX12_one_116 : decode cX12_one 116 = .ok (.aload_n 0, 1) := by decide +kernel
theorem dX12_one_117 : decode cX12_one 117 = .ok (.dup, 1) := by decide +kernel
theorem dX12_one_118 : decode cX12_one 118 = .ok (.getfield 638, 3) := by decide +kernel
theorem dX12_one_121 : decode cX12_one 121 = .ok (.iconst 1, 1) := by decide +kernel
theorem dX12_one_122 : decode cX12_one 122 = .ok (.isub, 1) := by decide +kernel
theorem dX12_one_123 : decode cX12_one 123 = .ok (.putfield 638, 3) := by decide +kernel
theorem dX12_one_126 : decode cX12_one 126 = .ok (.goto 123, 3) := by decide +kernel
theorem dX12_one_129 : decode cX12_one 129 = .ok (.aload_n 0, 1) := by decide +kernel
theorem dX12_one_130 : decode cX12_one 130 = .ok (.dup, 1) := by decide +kernel
theorem dX12_one_131 : decode cX12_one 131 = .ok (.getfield 638, 3) := by decide +kernel
theorem dX12_one_134 : decode cX12_one 134 = .ok (.iconst 2, 1) := by decide +kernel
theorem dX12_one_135 : decode cX12_one 135 = .ok (.isub, 1) := by decide +kernel
theorem dX12_one_136 : decode cX12_one 136 = .ok (.putfield 638, 3) := by decide +kernel
theorem dX12_one_139 : decode cX12_one 139 = .ok (.goto 110, 3) := by decide +kernel
theorem dX12_one_142 : decode cX12_one 142 = .ok (.aload_n 0, 1) := by decide +kernel
theorem dX12_one_143 : decode cX12_one 143 = .ok (.aload_n 0, 1) := by decide +kernel
theorem dX12_one_144 : decode cX12_one 144 = .ok (.invokevirtual 662, 3) := by decide +kernel
theorem dX12_one_147 : decode cX12_one 147 = .ok (.ifCond .ne 7, 3) := by decide +kernel
theorem dX12_one_150 : decode cX12_one 150 = .ok (.iconst 1, 1) := by decide +kernel
theorem dX12_one_151 : decode cX12_one 151 = .ok (.goto 4, 3) := by decide +kernel
theorem dX12_one_154 : decode cX12_one 154 = .ok (.iconst 0, 1) := by decide +kernel
theorem dX12_one_155 : decode cX12_one 155 = .ok (.invokestatic 677, 3) := by decide +kernel
theorem dX12_one_158 : decode cX12_one 158 = .ok (.invokevirtual 659, 3) := by decide +kernel
theorem dX12_one_161 : decode cX12_one 161 = .ok (.goto 88, 3) := by decide +kernel
theorem dX12_one_164 : decode cX12_one 164 = .ok (.aload_n 0, 1) := by decide +kernel
theorem dX12_one_165 : decode cX12_one 165 = .ok (.aload_n 0, 1) := by decide +kernel
theorem dX12_one_166 : decode cX12_one 166 = .ok (.invokevirtual 662, 3) := by decide +kernel
theorem dX12_one_169 : decode cX12_one 169 = .ok (.ineg, 1) := by decide +kernel
theorem dX12_one_170 : decode cX12_one 170 = .ok (.invokevirtual 659, 3) := by decide +kernel
theorem dX12_one_173 : decode cX12_one 173 = .ok (.goto 76, 3) := by decide +kernel
theorem dX12_one_176 : decode cX12_one 176 = .ok (.aload_n 0, 1) := by decide +kernel
theorem dX12_one_177 : decode cX12_one 177 = .ok (.dup, 1) := by decide +kernel
theorem dX12_one_178 : decode cX12_one 178 = .ok (.getfield 638, 3) := by decide +kernel
theorem dX12_one_181 : decode cX12_one 181 = .ok (.aload_n 0, 1) := by decide +kernel
theorem dX12_one_182 : decode cX12_one 182 = .ok (.getfield 52, 3) := by decide +kernel
theorem dX12_one_185 : decode cX12_one 185 = .ok (.bipush 96, 2) := by decide +kernel
theorem dX12_one_187 : decode cX12_one 187 = .ok (.aload_n 0, 1) := by decide +kernel
theorem dX12_one_188 : decode cX12_one 188 = .ok (.getfield 600, 3) := by decide +kernel
theorem dX12_one_191 : decode cX12_one 191 = .ok (.imul, 1) := by decide +kernel
theorem dX12_one_192 : decode cX12_one 192 = .ok (.iload_n 2, 1) := by decide +kernel
theorem dX12_one_193 : decode cX12_one 193 = .ok (.iadd, 1) := by decide +kernel
theorem dX12_one_194 : decode cX12_one 194 = .ok (.iaload, 1) := by decide +kernel
theorem dX12_one_195 : decode cX12_one 195 = .ok (.isub, 1) := by decide +kernel
theorem dX12_one_196 : decode cX12_one 196 = .ok (.putfield 638, 3) := by decide +kernel
theorem dX12_one_199 : decode cX12_one 199 = .ok (.aload_n 0, 1) := by decide +kernel
theorem dX12_one_200 : decode cX12_one 200 = .ok (.iconst 0, 1) := by decide +kernel
theorem dX12_one_201 : decode cX12_one 201 = .ok (.invokevirtual 659, 3) := by decide +kernel
theorem dX12_one_204 : decode cX12_one 204 = .ok (.goto 45, 3) := by decide +kernel
theorem dX12_one_207 : decode cX12_one 207 = .ok (.aload_n 0, 1) := by decide +kernel
theorem dX12_one_208 : decode cX12_one 208 = .ok (.invokevirtual 662, 3) := by decide +kernel
theorem dX12_one_211 : decode cX12_one 211 = .ok (.ifCond .ne 38, 3) := by decide +kernel
theorem dX12_one_214 : decode cX12_one 214 = .ok (.aload_n 0, 1) := by decide +kernel
theorem dX12_one_215 : decode cX12_one 215 = .ok (.iconst 5, 1) := by decide +kernel
theorem dX12_one_216 : decode cX12_one 216 = .ok (.iload_n 3, 1) := by decide +kernel
theorem dX12_one_217 : decode cX12_one 217 = .ok (.iconst 0, 1) := by decide +kernel
theorem dX12_one_218 : decode cX12_one 218 = .ok (.invokevirtual 625, 3) := by decide +kernel
theorem dX12_one_221 : decode cX12_one 221 = .ok (.goto 28, 3) := by decide +kernel
theorem dX12_one_224 : decode cX12_one 224 = .ok (.aload_n 0, 1) := by decide +kernel
theorem dX12_one_225 : decode cX12_one 225 = .ok (.aload_n 0, 1) := by decide +kernel
theorem dX12_one_226 : decode cX12_one 226 = .ok (.invokevirtual 662, 3) := by decide +kernel
theorem dX12_one_229 : decode cX12_one 229 = .ok (.iload_n 3, 1) := by decide +kernel
theorem dX12_one_230 : decode cX12_one 230 = .ok (.iconst 0, 1) := by decide +kernel
theorem dX12_one_231 : decode cX12_one 231 = .ok (.invokevirtual 625, 3) := by decide +kernel
theorem dX12_one_234 : decode cX12_one 234 = .ok (.goto 15, 3) := by decide +kernel
theorem dX12_one_237 : decode cX12_one 237 = .ok (.aload_n 0, 1) := by decide +kernel
theorem dX12_one_238 : decode cX12_one 238 = .ok (.aload_n 0, 1) := by decide +kernel
theorem dX12_one_239 : decode cX12_one 239 = .ok (.invokevirtual 662, 3) := by decide +kernel
theorem dX12_one_242 : decode cX12_one 242 = .ok (.iload_n 3, 1) := by decide +kernel
theorem dX12_one_243 : decode cX12_one 243 = .ok (.invokevirtual 680, 3) := by decide +kernel
theorem dX12_one_246 : decode cX12_one 246 = .ok (.goto 3, 3) := by decide +kernel
theorem dX12_one_249 : decode cX12_one 249 = .ok (.return_, 1) := by decide +kernel
theorem dX12_draw_0 : decode cX12_draw 0 = .ok (.iload_n 1, 1) := by decide +kernel
theorem dX12_draw_1 : decode cX12_draw 1 = .ok (.iconst 1, 1) := by decide +kernel
theorem dX12_draw_2 : decode cX12_draw 2 = .ok (.if_icmp .ge 11, 3) := by decide +kernel
theorem dX12_draw_5 : decode cX12_draw 5 = .ok (.aload_n 0, 1) := by decide +kernel
theorem dX12_draw_6 : decode cX12_draw 6 = .ok (.iconst 3, 1) := by decide +kernel
theorem dX12_draw_7 : decode cX12_draw 7 = .ok (.iload_n 2, 1) := by decide +kernel
theorem dX12_draw_8 : decode cX12_draw 8 = .ok (.iconst 0, 1) := by decide +kernel
theorem dX12_draw_9 : decode cX12_draw 9 = .ok (.invokevirtual 625, 3) := by decide +kernel
theorem dX12_draw_12 : decode cX12_draw 12 = .ok (.return_, 1) := by decide +kernel
theorem dX12_draw_13 : decode cX12_draw 13 = .ok (.aload_n 0, 1) := by decide +kernel
theorem dX12_draw_14 : decode cX12_draw 14 = .ok (.getfield 682, 3) := by decide +kernel
theorem dX12_draw_17 : decode cX12_draw 17 = .ok (.ifCond .eq 60, 3) := by decide +kernel
theorem dX12_draw_20 : decode cX12_draw 20 = .ok (.aload_n 0, 1) := by decide +kernel
theorem dX12_draw_21 : decode cX12_draw 21 = .ok (.getfield 685, 3) := by decide +kernel
theorem dX12_draw_24 : decode cX12_draw 24 = .ok (.aload_n 0, 1) := by decide +kernel
theorem dX12_draw_25 : decode cX12_draw 25 = .ok (.getfield 688, 3) := by decide +kernel
theorem dX12_draw_28 : decode cX12_draw 28 = .ok (.if_icmp .ne 33, 3) := by decide +kernel
theorem dX12_draw_31 : decode cX12_draw 31 = .ok (.aload_n 0, 1) := by decide +kernel
theorem dX12_draw_32 : decode cX12_draw 32 = .ok (.getfield 258, 3) := by decide +kernel
theorem dX12_draw_35 : decode cX12_draw 35 = .ok (.aload_n 0, 1) := by decide +kernel
theorem dX12_draw_36 : decode cX12_draw 36 = .ok (.getfield 688, 3) := by decide +kernel
theorem dX12_draw_39 : decode cX12_draw 39 = .ok (.iconst 0, 1) := by decide +kernel
theorem dX12_draw_40 : decode cX12_draw 40 = .ok (.iastore, 1) := by decide +kernel
theorem dX12_draw_41 : decode cX12_draw 41 = .ok (.aload_n 0, 1) := by decide +kernel
theorem dX12_draw_42 : decode cX12_draw 42 = .ok (.getfield 261, 3) := by decide +kernel
theorem dX12_draw_45 : decode cX12_draw 45 = .ok (.aload_n 0, 1) := by decide +kernel
theorem dX12_draw_46 : decode cX12_draw 46 = .ok (.getfield 688, 3) := by decide +kernel
theorem dX12_draw_49 : decode cX12_draw 49 = .ok (.iload_n 1, 1) := by decide +kernel
theorem dX12_draw_50 : decode cX12_draw 50 = .ok (.iastore, 1) := by decide +kernel
theorem dX12_draw_51 : decode cX12_draw 51 = .ok (.aload_n 0, 1) := by decide +kernel
theorem dX12_draw_52 : decode cX12_draw 52 = .ok (.dup, 1) := by decide +kernel
theorem dX12_draw_53 : decode cX12_draw 53 = .ok (.getfield 688, 3) := by decide +kernel
theorem dX12_draw_56 : decode cX12_draw 56 = .ok (.iconst 1, 1) := by decide +kernel
theorem dX12_draw_57 : decode cX12_draw 57 = .ok (.iadd, 1) := by decide +kernel
theorem dX12_draw_58 : decode cX12_draw 58 = .ok (.putfield 688, 3) := by decide +kernel
theorem dX12_draw_61 : decode cX12_draw 61 = .ok (.aload_n 0, 1) := by decide +kernel
theorem dX12_draw_62 : decode cX12_draw 62 = .ok (.aload_n 0, 1) := by decide +kernel
theorem dX12_draw_63 : decode cX12_draw 63 = .ok (.getfield 258, 3) := by decide +kernel
theorem dX12_draw_66 : decode cX12_draw 66 = .ok (.aload_n 0, 1) := by decide +kernel
theorem dX12_draw_67 : decode cX12_draw 67 = .ok (.getfield 685, 3) := by decide +kernel
theorem dX12_draw_70 : decode cX12_draw 70 = .ok (.iaload, 1) := by decide +kernel
theorem dX12_draw_71 : decode cX12_draw 71 = .ok (.invokevirtual 659, 3) := by decide +kernel
theorem dX12_draw_74 : decode cX12_draw 74 = .ok (.goto 32, 3) := by decide +kernel
theorem dX12_draw_77 : decode cX12_draw 77 = .ok (.aload_n 0, 1) := by decide +kernel
theorem dX12_draw_78 : decode cX12_draw 78 = .ok (.aload_n 0, 1) := by decide +kernel
theorem dX12_draw_79 : decode cX12_draw 79 = .ok (.getfield 691, 3) := by decide +kernel
theorem dX12_draw_82 : decode cX12_draw 82 = .ok (.ldc_w 694, 3) := by decide +kernel
theorem dX12_draw_85 : decode cX12_draw 85 = .ok (.imul, 1) := by decide +kernel
theorem dX12_draw_86 : decode cX12_draw 86 = .ok (.sipush 12345, 3) := by decide +kernel
theorem dX12_draw_89 : decode cX12_draw 89 = .ok (.iadd, 1) := by decide +kernel
theorem dX12_draw_90 : decode cX12_draw 90 = .ok (.putfield 691, 3) := by decide +kernel
theorem dX12_draw_93 : decode cX12_draw 93 = .ok (.aload_n 0, 1) := by decide +kernel
theorem dX12_draw_94 : decode cX12_draw 94 = .ok (.aload_n 0, 1) := by decide +kernel
theorem dX12_draw_95 : decode cX12_draw 95 = .ok (.getfield 691, 3) := by decide +kernel
theorem dX12_draw_98 : decode cX12_draw 98 = .ok (.bipush 16, 2) := by decide +kernel
theorem dX12_draw_100 : decode cX12_draw 100 = .ok (.iushr, 1) := by decide +kernel
theorem dX12_draw_101 : decode cX12_draw 101 = .ok (.iload_n 1, 1) := by decide +kernel
theorem dX12_draw_102 : decode cX12_draw 102 = .ok (.irem, 1) := by decide +kernel
theorem dX12_draw_103 : decode cX12_draw 103 = .ok (.invokevirtual 659, 3) := by decide +kernel
theorem dX12_draw_106 : decode cX12_draw 106 = .ok (.aload_n 0, 1) := by decide +kernel
theorem dX12_draw_107 : decode cX12_draw 107 = .ok (.dup, 1) := by decide +kernel
theorem dX12_draw_108 : decode cX12_draw 108 = .ok (.getfield 685, 3) := by decide +kernel
theorem dX12_draw_111 : decode cX12_draw 111 = .ok (.iconst 1, 1) := by decide +kernel
theorem dX12_draw_112 : decode cX12_draw 112 = .ok (.iadd, 1) := by decide +kernel
theorem dX12_draw_113 : decode cX12_draw 113 = .ok (.putfield 685, 3) := by decide +kernel
theorem dX12_draw_116 : decode cX12_draw 116 = .ok (.return_, 1) := by decide +kernel
theorem dX12_uses_0 : decode cX12_uses 0 = .ok (.aload_n 0, 1) := by decide +kernel
theorem dX12_uses_1 : decode cX12_uses 1 = .ok (.iload_n 2, 1) := by decide +kernel
theorem dX12_uses_2 : decode cX12_uses 2 = .ok (.invokevirtual 695, 3) := by decide +kernel
theorem dX12_uses_5 : decode cX12_uses 5 = .ok (.istore_n 3, 1) := by decide +kernel
theorem dX12_uses_6 : decode cX12_uses 6 = .ok (.iload_n 3, 1) := by decide +kernel
theorem dX12_uses_7 : decode cX12_uses 7 = .ok (.ifCond .ge 12, 3) := by decide +kernel
theorem dX12_uses_10 : decode cX12_uses 10 = .ok (.aload_n 0, 1) := by decide +kernel
theorem dX12_uses_11 : decode cX12_uses 11 = .ok (.iload_n 3, 1) := by decide +kernel
theorem dX12_uses_12 : decode cX12_uses 12 = .ok (.ineg, 1) := by decide +kernel
theorem dX12_uses_13 : decode cX12_uses 13 = .ok (.iload_n 2, 1) := by decide +kernel
theorem dX12_uses_14 : decode cX12_uses 14 = .ok (.iconst 0, 1) := by decide +kernel
theorem dX12_uses_15 : decode cX12_uses 15 = .ok (.invokevirtual 625, 3) := by decide +kernel
theorem dX12_uses_18 : decode cX12_uses 18 = .ok (.return_, 1) := by decide +kernel
theorem dX12_uses_19 : decode cX12_uses 19 = .ok (.aload_n 0, 1) := by decide +kernel
theorem dX12_uses_20 : decode cX12_uses 20 = .ok (.iload_n 3, 1) := by decide +kernel
theorem dX12_uses_21 : decode cX12_uses 21 = .ok (.iload_n 2, 1) := by decide +kernel
theorem dX12_uses_22 : decode cX12_uses 22 = .ok (.invokevirtual 698, 3) := by decide +kernel
theorem dX12_uses_25 : decode cX12_uses 25 = .ok (.ifCond .ne 4, 3) := by decide +kernel
theorem dX12_uses_28 : decode cX12_uses 28 = .ok (.return_, 1) := by decide +kernel
theorem dX12_uses_29 : decode cX12_uses 29 = .ok (.aload_n 0, 1) := by decide +kernel
theorem dX12_uses_30 : decode cX12_uses 30 = .ok (.getfield 52, 3) := by decide +kernel
theorem dX12_uses_33 : decode cX12_uses 33 = .ok (.aload_n 0, 1) := by decide +kernel
theorem dX12_uses_34 : decode cX12_uses 34 = .ok (.iload_n 3, 1) := by decide +kernel
theorem dX12_uses_35 : decode cX12_uses 35 = .ok (.invokevirtual 622, 3) := by decide +kernel
theorem dX12_uses_38 : decode cX12_uses 38 = .ok (.iaload, 1) := by decide +kernel
theorem dX12_uses_39 : decode cX12_uses 39 = .ok (.istore 4, 2) := by decide +kernel
theorem dX12_uses_41 : decode cX12_uses 41 = .ok (.iload_n 1, 1) := by decide +kernel
theorem dX12_uses_42 : decode cX12_uses 42 = .ok (.tableswitch 154 3 6 #[30, 43, 56, 103], 30) := by decide +kernel
theorem dX12_uses_72 : decode cX12_uses 72 = .ok (.aload_n 0, 1) := by decide +kernel
theorem dX12_uses_73 : decode cX12_uses 73 = .ok (.aload_n 0, 1) := by decide +kernel
theorem dX12_uses_74 : decode cX12_uses 74 = .ok (.getfield 224, 3) := by decide +kernel
theorem dX12_uses_77 : decode cX12_uses 77 = .ok (.iload_n 3, 1) := by decide +kernel
theorem dX12_uses_78 : decode cX12_uses 78 = .ok (.iaload, 1) := by decide +kernel
theorem dX12_uses_79 : decode cX12_uses 79 = .ok (.invokevirtual 659, 3) := by decide +kernel
theorem dX12_uses_82 : decode cX12_uses 82 = .ok (.goto 122, 3) := by decide +kernel
theorem dX12_uses_85 : decode cX12_uses 85 = .ok (.aload_n 0, 1) := by decide +kernel
theorem dX12_uses_86 : decode cX12_uses 86 = .ok (.getfield 224, 3) := by decide +kernel
theorem dX12_uses_89 : decode cX12_uses 89 = .ok (.iload_n 3, 1) := by decide +kernel
theorem dX12_uses_90 : decode cX12_uses 90 = .ok (.aload_n 0, 1) := by decide +kernel
theorem dX12_uses_91 : decode cX12_uses 91 = .ok (.invokevirtual 662, 3) := by decide +kernel
theorem dX12_uses_94 : decode cX12_uses 94 = .ok (.iastore, 1) := by decide +kernel
theorem dX12_uses_95 : decode cX12_uses 95 = .ok (.goto 109, 3) := by decide +kernel
theorem dX12_uses_98 : decode cX12_uses 98 = .ok (.aload_n 0, 1) := by decide +kernel
theorem dX12_uses_99 : decode cX12_uses 99 = .ok (.invokevirtual 662, 3) := by decide +kernel
theorem dX12_uses_102 : decode cX12_uses 102 = .ok (.istore 6, 2) := by decide +kernel
theorem dX12_uses_104 : decode cX12_uses 104 = .ok (.iload 6, 2) := by decide +kernel
theorem dX12_uses_106 : decode cX12_uses 106 = .ok (.ifCond .lt 10, 3) := by decide +kernel
theorem dX12_uses_109 : decode cX12_uses 109 = .ok (.iload 6, 2) := by decide +kernel
theorem dX12_uses_111 : decode cX12_uses 111 = .ok (.iload 4, 2) := by decide +kernel
theorem dX12_uses_113 : decode cX12_uses 113 = .ok (.if_icmp .lt 13, 3) := by decide +kernel
theorem dX12_uses_116 : decode cX12_uses 116 = .ok (.aload_n 0, 1) := by decide +kernel
theorem dX12_uses_117 : decode cX12_uses 117 = .ok (.iconst 2, 1) := by decide +kernel
theorem dX12_uses_118 : decode cX12_uses 118 = .ok (.iload_n 2, 1) := by decide +kernel
theorem dX12_uses_119 : decode cX12_uses 119 = .ok (.iconst 0, 1) := by decide +kernel
theorem dX12_uses_120 : decode cX12_uses 120 = .ok (.invokevirtual 625, 3) := by decide +kernel
theorem dX12_uses_123 : decode cX12_uses 123 = .ok (.goto 81, 3) := by decide +kernel
theorem dX12_uses_126 : decode cX12_uses 126 = .ok (.aload_n 0, 1) := by decide +kernel
theorem dX12_uses_127 : decode cX12_uses 127 = .ok (.aload_n 0, 1) := by decide +kernel
theorem dX12_uses_128 : decode cX12_uses 128 = .ok (.getfield 227, 3) := by decide +kernel
theorem dX12_uses_131 : decode cX12_uses 131 = .ok (.bipush 50, 2) := by decide +kernel
theorem dX12_uses_133 : decode cX12_uses 133 = .ok (.iload_n 3, 1) := by decide +kernel
theorem dX12_uses_134 : decode cX12_uses 134 = .ok (.imul, 1) := by decide +kernel
theorem dX12_uses_135 : decode cX12_uses 135 = .ok (.iload 6, 2) := by decide +kernel
theorem dX12_uses_137 : decode cX12_uses 137 = .ok (.iadd, 1) := by decide +kernel
theorem dX12_uses_138 : decode cX12_uses 138 = .ok (.iaload, 1) := by decide +kernel
theorem dX12_uses_139 : decode cX12_uses 139 = .ok (.invokevirtual 659, 3) := by decide +kernel
theorem dX12_uses_142 : decode cX12_uses 142 = .ok (.goto 62, 3) := by decide +kernel
theorem dX12_uses_145 : decode cX12_uses 145 = .ok (.aload_n 0, 1) := by decide +kernel
theorem dX12_uses_146 : decode cX12_uses 146 = .ok (.invokevirtual 662, 3) := by decide +kernel
theorem dX12_uses_149 : decode cX12_uses 149 = .ok (.istore 5, 2) := by decide +kernel
theorem dX12_uses_151 : decode cX12_uses 151 = .ok (.aload_n 0, 1) := by decide +kernel
theorem dX12_uses_152 : decode cX12_uses 152 = .ok (.invokevirtual 662, 3) := by decide +kernel
theorem dX12_uses_155 : decode cX12_uses 155 = .ok (.istore 6, 2) := by decide +kernel
theorem dX12_uses_157 : decode cX12_uses 157 = .ok (.iload 6, 2) := by decide +kernel
theorem dX12_uses_159 : decode cX12_uses 159 = .ok (.ifCond .lt 10, 3) := by decide +kernel
theorem dX12_uses_162 : decode cX12_uses 162 = .ok (.iload 6, 2) := by decide +kernel
theorem dX12_uses_164 : decode cX12_uses 164 = .ok (.iload 4, 2) := by decide +kernel
theorem dX12_uses_166 : decode cX12_uses 166 = .ok (.if_icmp .lt 13, 3) := by decide +kernel
theorem dX12_uses_169 : decode cX12_uses 169 = .ok (.aload_n 0, 1) := by decide +kernel
theorem dX12_uses_170 : decode cX12_uses 170 = .ok (.iconst 2, 1) := by decide +kernel
theorem dX12_uses_171 : decode cX12_uses 171 = .ok (.iload_n 2, 1) := by decide +kernel
theorem dX12_uses_172 : decode cX12_uses 172 = .ok (.iconst 0, 1) := by decide +kernel
theorem dX12_uses_173 : decode cX12_uses 173 = .ok (.invokevirtual 625, 3) := by decide +kernel
theorem dX12_uses_176 : decode cX12_uses 176 = .ok (.goto 28, 3) := by decide +kernel
theorem dX12_uses_179 : decode cX12_uses 179 = .ok (.aload_n 0, 1) := by decide +kernel
theorem dX12_uses_180 : decode cX12_uses 180 = .ok (.getfield 227, 3) := by decide +kernel
theorem dX12_uses_183 : decode cX12_uses 183 = .ok (.bipush 50, 2) := by decide +kernel
theorem dX12_uses_185 : decode cX12_uses 185 = .ok (.iload_n 3, 1) := by decide +kernel
theorem dX12_uses_186 : decode cX12_uses 186 = .ok (.imul, 1) := by decide +kernel
theorem dX12_uses_187 : decode cX12_uses 187 = .ok (.iload 6, 2) := by decide +kernel
theorem dX12_uses_189 : decode cX12_uses 189 = .ok (.iadd, 1) := by decide +kernel
theorem dX12_uses_190 : decode cX12_uses 190 = .ok (.iload 5, 2) := by decide +kernel
theorem dX12_uses_192 : decode cX12_uses 192 = .ok (.iastore, 1) := by decide +kernel
theorem dX12_uses_193 : decode cX12_uses 193 = .ok (.goto 11, 3) := by decide +kernel
theorem dX12_uses_196 : decode cX12_uses 196 = .ok (.aload_n 0, 1) := by decide +kernel
theorem dX12_uses_197 : decode cX12_uses 197 = .ok (.iload_n 3, 1) := by decide +kernel
theorem dX12_uses_198 : decode cX12_uses 198 = .ok (.iload_n 2, 1) := by decide +kernel
theorem dX12_uses_199 : decode cX12_uses 199 = .ok (.iload 4, 2) := by decide +kernel
theorem dX12_uses_201 : decode cX12_uses 201 = .ok (.invokevirtual 702, 3) := by decide +kernel
theorem dX12_uses_204 : decode cX12_uses 204 = .ok (.return_, 1) := by decide +kernel
theorem dX12_called_0 : decode cX12_called 0 = .ok (.aload_n 0, 1) := by decide +kernel
theorem dX12_called_1 : decode cX12_called 1 = .ok (.iload_n 1, 1) := by decide +kernel
theorem dX12_called_2 : decode cX12_called 2 = .ok (.bipush 96, 2) := by decide +kernel
theorem dX12_called_4 : decode cX12_called 4 = .ok (.if_icmp .ge 10, 3) := by decide +kernel
theorem dX12_called_7 : decode cX12_called 7 = .ok (.aload_n 0, 1) := by decide +kernel
theorem dX12_called_8 : decode cX12_called 8 = .ok (.getfield 600, 3) := by decide +kernel
theorem dX12_called_11 : decode cX12_called 11 = .ok (.goto 7, 3) := by decide +kernel
theorem dX12_called_14 : decode cX12_called 14 = .ok (.aload_n 0, 1) := by decide +kernel
theorem dX12_called_15 : decode cX12_called 15 = .ok (.getfield 603, 3) := by decide +kernel
theorem dX12_called_18 : decode cX12_called 18 = .ok (.iload_n 1, 1) := by decide +kernel
theorem dX12_called_19 : decode cX12_called 19 = .ok (.bipush 96, 2) := by decide +kernel
theorem dX12_called_21 : decode cX12_called 21 = .ok (.if_icmp .ge 7, 3) := by decide +kernel
theorem dX12_called_24 : decode cX12_called 24 = .ok (.iload_n 1, 1) := by decide +kernel
theorem dX12_called_25 : decode cX12_called 25 = .ok (.goto 7, 3) := by decide +kernel
theorem dX12_called_28 : decode cX12_called 28 = .ok (.iload_n 1, 1) := by decide +kernel
theorem dX12_called_29 : decode cX12_called 29 = .ok (.bipush 96, 2) := by decide +kernel
theorem dX12_called_31 : decode cX12_called 31 = .ok (.isub, 1) := by decide +kernel
theorem dX12_called_32 : decode cX12_called 32 = .ok (.invokevirtual 705, 3) := by decide +kernel
theorem dX12_called_35 : decode cX12_called 35 = .ok (.istore 4, 2) := by decide +kernel
theorem dX12_called_37 : decode cX12_called 37 = .ok (.iload 4, 2) := by decide +kernel
theorem dX12_called_39 : decode cX12_called 39 = .ok (.ifCond .ge 8, 3) := by decide +kernel
theorem dX12_called_42 : decode cX12_called 42 = .ok (.bipush (-2), 2) := by decide +kernel
theorem dX12_called_44 : decode cX12_called 44 = .ok (.goto 10, 3) := by decide +kernel
theorem dX12_called_47 : decode cX12_called 47 = .ok (.aload_n 0, 1) := by decide +kernel
theorem dX12_called_48 : decode cX12_called 48 = .ok (.iload 4, 2) := by decide +kernel
theorem dX12_called_50 : decode cX12_called 50 = .ok (.iload_n 3, 1) := by decide +kernel
theorem dX12_called_51 : decode cX12_called 51 = .ok (.invokevirtual 708, 3) := by decide +kernel
theorem dX12_called_54 : decode cX12_called 54 = .ok (.istore 5, 2) := by decide +kernel
theorem dX12_called_56 : decode cX12_called 56 = .ok (.iload 4, 2) := by decide +kernel
theorem dX12_called_58 : decode cX12_called 58 = .ok (.ifCond .lt 19, 3) := by decide +kernel
theorem dX12_called_61 : decode cX12_called 61 = .ok (.aload_n 0, 1) := by decide +kernel
theorem dX12_called_62 : decode cX12_called 62 = .ok (.getfield 711, 3) := by decide +kernel
theorem dX12_called_65 : decode cX12_called 65 = .ok (.ifCond .eq 12, 3) := by decide +kernel
theorem dX12_called_68 : decode cX12_called 68 = .ok (.aload_n 0, 1) := by decide +kernel
theorem dX12_called_69 : decode cX12_called 69 = .ok (.iload 4, 2) := by decide +kernel
theorem dX12_called_71 : decode cX12_called 71 = .ok (.iload_n 3, 1) := by decide +kernel
theorem dX12_called_72 : decode cX12_called 72 = .ok (.iload 5, 2) := by decide +kernel
theorem dX12_called_74 : decode cX12_called 74 = .ok (.invokevirtual 714, 3) := by decide +kernel
theorem dX12_called_77 : decode cX12_called 77 = .ok (.iload 5, 2) := by decide +kernel
theorem dX12_called_79 : decode cX12_called 79 = .ok (.ifCond .lt 41, 3) := by decide +kernel
theorem dX12_called_82 : decode cX12_called 82 = .ok (.aload_n 0, 1) := by decide +kernel
theorem dX12_called_83 : decode cX12_called 83 = .ok (.getfield 300, 3) := by decide +kernel
theorem dX12_called_86 : decode cX12_called 86 = .ok (.bipush 8, 2) := by decide +kernel
theorem dX12_called_88 : decode cX12_called 88 = .ok (.iload 4, 2) := by decide +kernel
theorem dX12_called_90 : decode cX12_called 90 = .ok (.imul, 1) := by decide +kernel
theorem dX12_called_91 : decode cX12_called 91 = .ok (.iload 5, 2) := by decide +kernel
theorem dX12_called_93 : decode cX12_called 93 = .ok (.iadd, 1) := by decide +kernel
theorem dX12_called_94 : decode cX12_called 94 = .ok (.baload, 1) := by decide +kernel
theorem dX12_called_95 : decode cX12_called 95 = .ok (.ifCond .eq 25, 3) := by decide +kernel
theorem dX12_called_98 : decode cX12_called 98 = .ok (.aload_n 0, 1) := by decide +kernel
theorem dX12_called_99 : decode cX12_called 99 = .ok (.aload_n 0, 1) := by decide +kernel
theorem dX12_called_100 : decode cX12_called 100 = .ok (.getfield 303, 3) := by decide +kernel
theorem dX12_called_103 : decode cX12_called 103 = .ok (.bipush 8, 2) := by decide +kernel
theorem dX12_called_105 : decode cX12_called 105 = .ok (.iload 4, 2) := by decide +kernel
theorem dX12_called_107 : decode cX12_called 107 = .ok (.imul, 1) := by decide +kernel
theorem dX12_called_108 : decode cX12_called 108 = .ok (.iload 5, 2) := by decide +kernel
theorem dX12_called_110 : decode cX12_called 110 = .ok (.iadd, 1) := by decide +kernel
theorem dX12_called_111 : decode cX12_called 111 = .ok (.iaload, 1) := by decide +kernel
theorem dX12_called_112 : decode cX12_called 112 = .ok (.iload_n 2, 1) := by decide +kernel
theorem dX12_called_113 : decode cX12_called 113 = .ok (.iconst 0, 1) := by decide +kernel
theorem dX12_called_114 : decode cX12_called 114 = .ok (.invokevirtual 625, 3) := by decide +kernel
theorem dX12_called_117 : decode cX12_called 117 = .ok (.goto 109, 3) := by decide +kernel
theorem dX12_called_120 : decode cX12_called 120 = .ok (.iload 5, 2) := by decide +kernel
theorem dX12_called_122 : decode cX12_called 122 = .ok (.ifCond .lt 33, 3) := by decide +kernel
theorem dX12_called_125 : decode cX12_called 125 = .ok (.aload_n 0, 1) := by decide +kernel
theorem dX12_called_126 : decode cX12_called 126 = .ok (.dup, 1) := by decide +kernel
theorem dX12_called_127 : decode cX12_called 127 = .ok (.getfield 638, 3) := by decide +kernel
theorem dX12_called_130 : decode cX12_called 130 = .ok (.iload_n 3, 1) := by decide +kernel
theorem dX12_called_131 : decode cX12_called 131 = .ok (.isub, 1) := by decide +kernel
theorem dX12_called_132 : decode cX12_called 132 = .ok (.putfield 638, 3) := by decide +kernel
theorem dX12_called_135 : decode cX12_called 135 = .ok (.aload_n 0, 1) := by decide +kernel
theorem dX12_called_136 : decode cX12_called 136 = .ok (.aload_n 0, 1) := by decide +kernel
theorem dX12_called_137 : decode cX12_called 137 = .ok (.getfield 303, 3) := by decide +kernel
theorem dX12_called_140 : decode cX12_called 140 = .ok (.bipush 8, 2) := by decide +kernel
theorem dX12_called_142 : decode cX12_called 142 = .ok (.iload 4, 2) := by decide +kernel
theorem dX12_called_144 : decode cX12_called 144 = .ok (.imul, 1) := by decide +kernel
theorem dX12_called_145 : decode cX12_called 145 = .ok (.iload 5, 2) := by decide +kernel
theorem dX12_called_147 : decode cX12_called 147 = .ok (.iadd, 1) := by decide +kernel
theorem dX12_called_148 : decode cX12_called 148 = .ok (.iaload, 1) := by decide +kernel
theorem dX12_called_149 : decode cX12_called 149 = .ok (.invokevirtual 659, 3) := by decide +kernel
theorem dX12_called_152 : decode cX12_called 152 = .ok (.goto 74, 3) := by decide +kernel
theorem dX12_called_155 : decode cX12_called 155 = .ok (.aload_n 0, 1) := by decide +kernel
theorem dX12_called_156 : decode cX12_called 156 = .ok (.getfield 629, 3) := by decide +kernel
theorem dX12_called_159 : decode cX12_called 159 = .ok (.bipush 12, 2) := by decide +kernel
theorem dX12_called_161 : decode cX12_called 161 = .ok (.if_icmp .ne 14, 3) := by decide +kernel
theorem dX12_called_164 : decode cX12_called 164 = .ok (.aload_n 0, 1) := by decide +kernel
theorem dX12_called_165 : decode cX12_called 165 = .ok (.bipush 7, 2) := by decide +kernel
theorem dX12_called_167 : decode cX12_called 167 = .ok (.iload_n 2, 1) := by decide +kernel
theorem dX12_called_168 : decode cX12_called 168 = .ok (.iconst 1, 1) := by decide +kernel
theorem dX12_called_169 : decode cX12_called 169 = .ok (.invokevirtual 625, 3) := by decide +kernel
theorem dX12_called_172 : decode cX12_called 172 = .ok (.goto 54, 3) := by decide +kernel
theorem dX12_called_175 : decode cX12_called 175 = .ok (.aload_n 0, 1) := by decide +kernel
theorem dX12_called_176 : decode cX12_called 176 = .ok (.aload_n 0, 1) := by decide +kernel
theorem dX12_called_177 : decode cX12_called 177 = .ok (.getfield 55, 3) := by decide +kernel
theorem dX12_called_180 : decode cX12_called 180 = .ok (.aload_n 0, 1) := by decide +kernel
theorem dX12_called_181 : decode cX12_called 181 = .ok (.iload_n 1, 1) := by decide +kernel
theorem dX12_called_182 : decode cX12_called 182 = .ok (.invokevirtual 622, 3) := by decide +kernel
theorem dX12_called_185 : decode cX12_called 185 = .ok (.iaload, 1) := by decide +kernel
theorem dX12_called_186 : decode cX12_called 186 = .ok (.iload_n 1, 1) := by decide +kernel
theorem dX12_called_187 : decode cX12_called 187 = .ok (.bipush 96, 2) := by decide +kernel
theorem dX12_called_189 : decode cX12_called 189 = .ok (.if_icmp .ge 7, 3) := by decide +kernel
theorem dX12_called_192 : decode cX12_called 192 = .ok (.iconst 0, 1) := by decide +kernel
theorem dX12_called_193 : decode cX12_called 193 = .ok (.goto 6, 3) := by decide +kernel
theorem dX12_called_196 : decode cX12_called 196 = .ok (.sipush 1000, 3) := by decide +kernel
theorem dX12_called_199 : decode cX12_called 199 = .ok (.iadd, 1) := by decide +kernel
theorem dX12_called_200 : decode cX12_called 200 = .ok (.iload_n 3, 1) := by decide +kernel
theorem dX12_called_201 : decode cX12_called 201 = .ok (.invokevirtual 632, 3) := by decide +kernel
theorem dX12_called_204 : decode cX12_called 204 = .ok (.istore 6, 2) := by decide +kernel
theorem dX12_called_206 : decode cX12_called 206 = .ok (.aload_n 0, 1) := by decide +kernel
theorem dX12_called_207 : decode cX12_called 207 = .ok (.getfield 610, 3) := by decide +kernel
theorem dX12_called_210 : decode cX12_called 210 = .ok (.ifCond .ne 16, 3) := by decide +kernel
theorem dX12_called_213 : decode cX12_called 213 = .ok (.aload_n 0, 1) := by decide +kernel
theorem dX12_called_214 : decode cX12_called 214 = .ok (.getfield 635, 3) := by decide +kernel
theorem dX12_called_217 : decode cX12_called 217 = .ok (.ifCond .ne 9, 3) := by decide +kernel
theorem dX12_called_220 : decode cX12_called 220 = .ok (.aload_n 0, 1) := by decide +kernel
theorem dX12_called_221 : decode cX12_called 221 = .ok (.iload 6, 2) := by decide +kernel
theorem dX12_called_223 : decode cX12_called 223 = .ok (.invokevirtual 659, 3) := by decide +kernel
theorem dX12_called_226 : decode cX12_called 226 = .ok (.return_, 1) := by decide +kernel
theorem dX12_clear_0 : decode cX12_clear 0 = .ok (.iconst 0, 1) := by decide +kernel
theorem dX12_clear_1 : decode cX12_clear 1 = .ok (.istore_n 1, 1) := by decide +kernel
theorem dX12_clear_2 : decode cX12_clear 2 = .ok (.iload_n 1, 1) := by decide +kernel
theorem dX12_clear_3 : decode cX12_clear 3 = .ok (.bipush 16, 2) := by decide +kernel
theorem dX12_clear_5 : decode cX12_clear 5 = .ok (.if_icmp .ge 16, 3) := by decide +kernel
theorem dX12_clear_8 : decode cX12_clear 8 = .ok (.aload_n 0, 1) := by decide +kernel
theorem dX12_clear_9 : decode cX12_clear 9 = .ok (.getfield 221, 3) := by decide +kernel
theorem dX12_clear_12 : decode cX12_clear 12 = .ok (.iload_n 1, 1) := by decide +kernel
theorem dX12_clear_13 : decode cX12_clear 13 = .ok (.iconst 0, 1) := by decide +kernel
theorem dX12_clear_14 : decode cX12_clear 14 = .ok (.iastore, 1) := by decide +kernel
theorem dX12_clear_15 : decode cX12_clear 15 = .ok (.iinc 1 1, 3) := by decide +kernel
theorem dX12_clear_18 : decode cX12_clear 18 = .ok (.goto (-16), 3) := by decide +kernel
theorem dX12_clear_21 : decode cX12_clear 21 = .ok (.aload_n 0, 1) := by decide +kernel
theorem dX12_clear_22 : decode cX12_clear 22 = .ok (.aload_n 0, 1) := by decide +kernel
theorem dX12_clear_23 : decode cX12_clear 23 = .ok (.getfield 243, 3) := by decide +kernel
theorem dX12_clear_26 : decode cX12_clear 26 = .ok (.putfield 691, 3) := by decide +kernel
theorem dX12_clear_29 : decode cX12_clear 29 = .ok (.aload_n 0, 1) := by decide +kernel
theorem dX12_clear_30 : decode cX12_clear 30 = .ok (.aload_n 0, 1) := by decide +kernel
theorem dX12_clear_31 : decode cX12_clear 31 = .ok (.getfield 239, 3) := by decide +kernel
theorem dX12_clear_34 : decode cX12_clear 34 = .ok (.putfield 641, 3) := by decide +kernel
theorem dX12_clear_37 : decode cX12_clear 37 = .ok (.aload_n 0, 1) := by decide +kernel
theorem dX12_clear_38 : decode cX12_clear 38 = .ok (.iconst 0, 1) := by decide +kernel
theorem dX12_clear_39 : decode cX12_clear 39 = .ok (.putfield 650, 3) := by decide +kernel
theorem dX12_clear_42 : decode cX12_clear 42 = .ok (.aload_n 0, 1) := by decide +kernel
theorem dX12_clear_43 : decode cX12_clear 43 = .ok (.iconst 0, 1) := by decide +kernel
theorem dX12_clear_44 : decode cX12_clear 44 = .ok (.putfield 685, 3) := by decide +kernel
theorem dX12_clear_47 : decode cX12_clear 47 = .ok (.aload_n 0, 1) := by decide +kernel
theorem dX12_clear_48 : decode cX12_clear 48 = .ok (.iconst 0, 1) := by decide +kernel
theorem dX12_clear_49 : decode cX12_clear 49 = .ok (.putfield 635, 3) := by decide +kernel
theorem dX12_clear_52 : decode cX12_clear 52 = .ok (.return_, 1) := by decide +kernel
theorem dX12_doesFail_0 : decode cX12_doesFail 0 = .ok (.aload_n 0, 1) := by decide +kernel
theorem dX12_doesFail_1 : decode cX12_doesFail 1 = .ok (.iconst 0, 1) := by decide +kernel
theorem dX12_doesFail_2 : decode cX12_doesFail 2 = .ok (.putfield 610, 3) := by decide +kernel
theorem dX12_doesFail_5 : decode cX12_doesFail 5 = .ok (.aload_n 0, 1) := by decide +kernel
theorem dX12_doesFail_6 : decode cX12_doesFail 6 = .ok (.iconst 0, 1) := by decide +kernel
theorem dX12_doesFail_7 : decode cX12_doesFail 7 = .ok (.putfield 619, 3) := by decide +kernel
theorem dX12_doesFail_10 : decode cX12_doesFail 10 = .ok (.aload_n 0, 1) := by decide +kernel
theorem dX12_doesFail_11 : decode cX12_doesFail 11 = .ok (.iconst 0, 1) := by decide +kernel
theorem dX12_doesFail_12 : decode cX12_doesFail 12 = .ok (.putfield 629, 3) := by decide +kernel
theorem dX12_doesFail_15 : decode cX12_doesFail 15 = .ok (.aload_n 0, 1) := by decide +kernel
theorem dX12_doesFail_16 : decode cX12_doesFail 16 = .ok (.iload_n 1, 1) := by decide +kernel
theorem dX12_doesFail_17 : decode cX12_doesFail 17 = .ok (.iload_n 2, 1) := by decide +kernel
theorem dX12_doesFail_18 : decode cX12_doesFail 18 = .ok (.invokevirtual 632, 3) := by decide +kernel
theorem dX12_doesFail_21 : decode cX12_doesFail 21 = .ok (.istore_n 3, 1) := by decide +kernel
theorem dX12_doesFail_22 : decode cX12_doesFail 22 = .ok (.aload_n 0, 1) := by decide +kernel
theorem dX12_doesFail_23 : decode cX12_doesFail 23 = .ok (.getfield 610, 3) := by decide +kernel
theorem dX12_doesFail_26 : decode cX12_doesFail 26 = .ok (.ireturn, 1) := by decide +kernel
theorem dX12_tells_0 : decode cX12_tells 0 = .ok (.aload_n 0, 1) := by decide +kernel
theorem dX12_tells_1 : decode cX12_tells 1 = .ok (.iload_n 1, 1) := by decide +kernel
theorem dX12_tells_2 : decode cX12_tells 2 = .ok (.putfield 717, 3) := by decide +kernel
theorem dX12_tells_5 : decode cX12_tells 5 = .ok (.aload_n 0, 1) := by decide +kernel
theorem dX12_tells_6 : decode cX12_tells 6 = .ok (.aload_n 0, 1) := by decide +kernel
theorem dX12_tells_7 : decode cX12_tells 7 = .ok (.getfield 613, 3) := by decide +kernel
theorem dX12_tells_10 : decode cX12_tells 10 = .ok (.putfield 720, 3) := by decide +kernel
theorem dX12_tells_13 : decode cX12_tells 13 = .ok (.aload_n 0, 1) := by decide +kernel
theorem dX12_tells_14 : decode cX12_tells 14 = .ok (.aload_n 0, 1) := by decide +kernel
theorem dX12_tells_15 : decode cX12_tells 15 = .ok (.getfield 616, 3) := by decide +kernel
theorem dX12_tells_18 : decode cX12_tells 18 = .ok (.putfield 723, 3) := by decide +kernel
theorem dX12_tells_21 : decode cX12_tells 21 = .ok (.return_, 1) := by decide +kernel
theorem dX12_life_0 : decode cX12_life 0 = .ok (.bipush 16, 2) := by decide +kernel
theorem dX12_life_2 : decode cX12_life 2 = .ok (.aload_n 0, 1) := by decide +kernel
theorem dX12_life_3 : decode cX12_life 3 = .ok (.getfield 600, 3) := by decide +kernel
theorem dX12_life_6 : decode cX12_life 6 = .ok (.imul, 1) := by decide +kernel
theorem dX12_life_7 : decode cX12_life 7 = .ok (.iload_n 1, 1) := by decide +kernel
theorem dX12_life_8 : decode cX12_life 8 = .ok (.iadd, 1) := by decide +kernel
theorem dX12_life_9 : decode cX12_life 9 = .ok (.istore_n 2, 1) := by decide +kernel
theorem dX12_life_10 : decode cX12_life 10 = .ok (.bipush 8, 2) := by decide +kernel
theorem dX12_life_12 : decode cX12_life 12 = .ok (.aload_n 0, 1) := by decide +kernel
theorem dX12_life_13 : decode cX12_life 13 = .ok (.getfield 600, 3) := by decide +kernel
theorem dX12_life_16 : decode cX12_life 16 = .ok (.imul, 1) := by decide +kernel
theorem dX12_life_17 : decode cX12_life 17 = .ok (.aload_n 0, 1) := by decide +kernel
theorem dX12_life_18 : decode cX12_life 18 = .ok (.getfield 64, 3) := by decide +kernel
theorem dX12_life_21 : decode cX12_life 21 = .ok (.iload_n 2, 1) := by decide +kernel
theorem dX12_life_22 : decode cX12_life 22 = .ok (.iaload, 1) := by decide +kernel
theorem dX12_life_23 : decode cX12_life 23 = .ok (.iadd, 1) := by decide +kernel
theorem dX12_life_24 : decode cX12_life 24 = .ok (.istore_n 3, 1) := by decide +kernel
theorem dX12_life_25 : decode cX12_life 25 = .ok (.aload_n 0, 1) := by decide +kernel
theorem dX12_life_26 : decode cX12_life 26 = .ok (.iconst 1, 1) := by decide +kernel
theorem dX12_life_27 : decode cX12_life 27 = .ok (.putfield 717, 3) := by decide +kernel
theorem dX12_life_30 : decode cX12_life 30 = .ok (.aload_n 0, 1) := by decide +kernel
theorem dX12_life_31 : decode cX12_life 31 = .ok (.iconst 0, 1) := by decide +kernel
theorem dX12_life_32 : decode cX12_life 32 = .ok (.putfield 720, 3) := by decide +kernel
theorem dX12_life_35 : decode cX12_life 35 = .ok (.aload_n 0, 1) := by decide +kernel
theorem dX12_life_36 : decode cX12_life 36 = .ok (.bipush (-2), 2) := by decide +kernel
theorem dX12_life_38 : decode cX12_life 38 = .ok (.putfield 723, 3) := by decide +kernel
theorem dX12_life_41 : decode cX12_life 41 = .ok (.aload_n 0, 1) := by decide +kernel
theorem dX12_life_42 : decode cX12_life 42 = .ok (.invokevirtual 726, 3) := by decide +kernel
theorem dX12_life_45 : decode cX12_life 45 = .ok (.aload_n 0, 1) := by decide +kernel
theorem dX12_life_46 : decode cX12_life 46 = .ok (.getfield 73, 3) := by decide +kernel
theorem dX12_life_49 : decode cX12_life 49 = .ok (.iload_n 2, 1) := by decide +kernel
theorem dX12_life_50 : decode cX12_life 50 = .ok (.baload, 1) := by decide +kernel
theorem dX12_life_51 : decode cX12_life 51 = .ok (.ifCond .eq 9, 3) := by decide +kernel
theorem dX12_life_54 : decode cX12_life 54 = .ok (.aload_n 0, 1) := by decide +kernel
theorem dX12_life_55 : decode cX12_life 55 = .ok (.iconst 5, 1) := by decide +kernel
theorem dX12_life_56 : decode cX12_life 56 = .ok (.putfield 717, 3) := by decide +kernel
theorem dX12_life_59 : decode cX12_life 59 = .ok (.return_, 1) := by decide +kernel
theorem dX12_life_60 : decode cX12_life 60 = .ok (.iconst 0, 1) := by decide +kernel
theorem dX12_life_61 : decode cX12_life 61 = .ok (.istore 4, 2) := by decide +kernel
theorem dX12_life_63 : decode cX12_life 63 = .ok (.iload 4, 2) := by decide +kernel
theorem dX12_life_65 : decode cX12_life 65 = .ok (.aload_n 0, 1) := by decide +kernel
theorem dX12_life_66 : decode cX12_life 66 = .ok (.getfield 24, 3) := by decide +kernel
theorem dX12_life_69 : decode cX12_life 69 = .ok (.iload_n 3, 1) := by decide +kernel
theorem dX12_life_70 : decode cX12_life 70 = .ok (.iaload, 1) := by decide +kernel
theorem dX12_life_71 : decode cX12_life 71 = .ok (.if_icmp .ge 46, 3) := by decide +kernel
theorem dX12_life_74 : decode cX12_life 74 = .ok (.aload_n 0, 1) := by decide +kernel
theorem dX12_life_75 : decode cX12_life 75 = .ok (.getfield 717, 3) := by decide +kernel
theorem dX12_life_78 : decode cX12_life 78 = .ok (.iconst 1, 1) := by decide +kernel
theorem dX12_life_79 : decode cX12_life 79 = .ok (.if_icmp .ne 38, 3) := by decide +kernel
theorem dX12_life_82 : decode cX12_life 82 = .ok (.aload_n 0, 1) := by decide +kernel
theorem dX12_life_83 : decode cX12_life 83 = .ok (.iconst 0, 1) := by decide +kernel
theorem dX12_life_84 : decode cX12_life 84 = .ok (.putfield 638, 3) := by decide +kernel
theorem dX12_life_87 : decode cX12_life 87 = .ok (.aload_n 0, 1) := by decide +kernel
theorem dX12_life_88 : decode cX12_life 88 = .ok (.aload_n 0, 1) := by decide +kernel
theorem dX12_life_89 : decode cX12_life 89 = .ok (.getfield 27, 3) := by decide +kernel
theorem dX12_life_92 : decode cX12_life 92 = .ok (.iconst 3, 1) := by decide +kernel
theorem dX12_life_93 : decode cX12_life 93 = .ok (.iload_n 3, 1) := by decide +kernel
theorem dX12_life_94 : decode cX12_life 94 = .ok (.imul, 1) := by decide +kernel
theorem dX12_life_95 : decode cX12_life 95 = .ok (.iload 4, 2) := by decide +kernel
theorem dX12_life_97 : decode cX12_life 97 = .ok (.iadd, 1) := by decide +kernel
theorem dX12_life_98 : decode cX12_life 98 = .ok (.iaload, 1) := by decide +kernel
theorem dX12_life_99 : decode cX12_life 99 = .ok (.iconst 0, 1) := by decide +kernel
theorem dX12_life_100 : decode cX12_life 100 = .ok (.invokevirtual 729, 3) := by decide +kernel
theorem dX12_life_103 : decode cX12_life 103 = .ok (.ifCond .eq 8, 3) := by decide +kernel
theorem dX12_life_106 : decode cX12_life 106 = .ok (.aload_n 0, 1) := by decide +kernel
theorem dX12_life_107 : decode cX12_life 107 = .ok (.iconst 3, 1) := by decide +kernel
theorem dX12_life_108 : decode cX12_life 108 = .ok (.invokevirtual 732, 3) := by decide +kernel
theorem dX12_life_111 : decode cX12_life 111 = .ok (.iinc 4 1, 3) := by decide +kernel
theorem dX12_life_114 : decode cX12_life 114 = .ok (.goto (-51), 3) := by decide +kernel
theorem dX12_life_117 : decode cX12_life 117 = .ok (.aload_n 0, 1) := by decide +kernel
theorem dX12_life_118 : decode cX12_life 118 = .ok (.getfield 717, 3) := by decide +kernel
theorem dX12_life_121 : decode cX12_life 121 = .ok (.iconst 1, 1) := by decide +kernel
theorem dX12_life_122 : decode cX12_life 122 = .ok (.if_icmp .ne 90, 3) := by decide +kernel
theorem dX12_life_125 : decode cX12_life 125 = .ok (.aload_n 0, 1) := by decide +kernel
theorem dX12_life_126 : decode cX12_life 126 = .ok (.iconst 0, 1) := by decide +kernel
theorem dX12_life_127 : decode cX12_life 127 = .ok (.putfield 638, 3) := by decide +kernel
theorem dX12_life_130 : decode cX12_life 130 = .ok (.aload_n 0, 1) := by decide +kernel
theorem dX12_life_131 : decode cX12_life 131 = .ok (.aload_n 0, 1) := by decide +kernel
theorem dX12_life_132 : decode cX12_life 132 = .ok (.getfield 67, 3) := by decide +kernel
theorem dX12_life_135 : decode cX12_life 135 = .ok (.iload_n 2, 1) := by decide +kernel
theorem dX12_life_136 : decode cX12_life 136 = .ok (.iaload, 1) := by decide +kernel
theorem dX12_life_137 : decode cX12_life 137 = .ok (.invokevirtual 659, 3) := by decide +kernel
theorem dX12_life_140 : decode cX12_life 140 = .ok (.aload_n 0, 1) := by decide +kernel
theorem dX12_life_141 : decode cX12_life 141 = .ok (.aload_n 0, 1) := by decide +kernel
theorem dX12_life_142 : decode cX12_life 142 = .ok (.getfield 76, 3) := by decide +kernel
theorem dX12_life_145 : decode cX12_life 145 = .ok (.iload_n 2, 1) := by decide +kernel
theorem dX12_life_146 : decode cX12_life 146 = .ok (.iaload, 1) := by decide +kernel
theorem dX12_life_147 : decode cX12_life 147 = .ok (.iconst 1, 1) := by decide +kernel
theorem dX12_life_148 : decode cX12_life 148 = .ok (.invokevirtual 729, 3) := by decide +kernel
theorem dX12_life_151 : decode cX12_life 151 = .ok (.istore 4, 2) := by decide +kernel
theorem dX12_life_153 : decode cX12_life 153 = .ok (.iload 4, 2) := by decide +kernel
theorem dX12_life_155 : decode cX12_life 155 = .ok (.ifCond .eq 33, 3) := by decide +kernel
theorem dX12_life_158 : decode cX12_life 158 = .ok (.aload_n 0, 1) := by decide +kernel
theorem dX12_life_159 : decode cX12_life 159 = .ok (.getfield 70, 3) := by decide +kernel
theorem dX12_life_162 : decode cX12_life 162 = .ok (.iload_n 2, 1) := by decide +kernel
theorem dX12_life_163 : decode cX12_life 163 = .ok (.iaload, 1) := by decide +kernel
theorem dX12_life_164 : decode cX12_life 164 = .ok (.ifCond .eq 16, 3) := by decide +kernel
theorem dX12_life_167 : decode cX12_life 167 = .ok (.aload_n 0, 1) := by decide +kernel
theorem dX12_life_168 : decode cX12_life 168 = .ok (.getfield 70, 3) := by decide +kernel
theorem dX12_life_171 : decode cX12_life 171 = .ok (.iload_n 2, 1) := by decide +kernel
theorem dX12_life_172 : decode cX12_life 172 = .ok (.iaload, 1) := by decide +kernel
theorem dX12_life_173 : decode cX12_life 173 = .ok (.aload_n 0, 1) := by decide +kernel
theorem dX12_life_174 : decode cX12_life 174 = .ok (.getfield 613, 3) := by decide +kernel
theorem dX12_life_177 : decode cX12_life 177 = .ok (.if_icmp .eq 11, 3) := by decide +kernel
theorem dX12_life_180 : decode cX12_life 180 = .ok (.aload_n 0, 1) := by decide +kernel
theorem dX12_life_181 : decode cX12_life 181 = .ok (.iconst 2, 1) := by decide +kernel
theorem dX12_life_182 : decode cX12_life 182 = .ok (.invokevirtual 732, 3) := by decide +kernel
theorem dX12_life_185 : decode cX12_life 185 = .ok (.goto 27, 3) := by decide +kernel
theorem dX12_life_188 : decode cX12_life 188 = .ok (.iload 4, 2) := by decide +kernel
theorem dX12_life_190 : decode cX12_life 190 = .ok (.ifCond .ne 22, 3) := by decide +kernel
theorem dX12_life_193 : decode cX12_life 193 = .ok (.aload_n 0, 1) := by decide +kernel
theorem dX12_life_194 : decode cX12_life 194 = .ok (.getfield 70, 3) := by decide +kernel
theorem dX12_life_197 : decode cX12_life 197 = .ok (.iload_n 2, 1) := by decide +kernel
theorem dX12_life_198 : decode cX12_life 198 = .ok (.iaload, 1) := by decide +kernel
theorem dX12_life_199 : decode cX12_life 199 = .ok (.ifCond .le 13, 3) := by decide +kernel
theorem dX12_life_202 : decode cX12_life 202 = .ok (.aload_n 0, 1) := by decide +kernel
theorem dX12_life_203 : decode cX12_life 203 = .ok (.iconst 2, 1) := by decide +kernel
theorem dX12_life_204 : decode cX12_life 204 = .ok (.putfield 717, 3) := by decide +kernel
theorem dX12_life_207 : decode cX12_life 207 = .ok (.aload_n 0, 1) := by decide +kernel
theorem dX12_life_208 : decode cX12_life 208 = .ok (.iconst 4, 1) := by decide +kernel
theorem dX12_life_209 : decode cX12_life 209 = .ok (.putfield 720, 3) := by decide +kernel
theorem dX12_life_212 : decode cX12_life 212 = .ok (.aload_n 0, 1) := by decide +kernel
theorem dX12_life_213 : decode cX12_life 213 = .ok (.getfield 30, 3) := by decide +kernel
theorem dX12_life_216 : decode cX12_life 216 = .ok (.iload_n 3, 1) := by decide +kernel
theorem dX12_life_217 : decode cX12_life 217 = .ok (.iaload, 1) := by decide +kernel
theorem dX12_life_218 : decode cX12_life 218 = .ok (.iconst 1, 1) := by decide +kernel
theorem dX12_life_219 : decode cX12_life 219 = .ok (.isub, 1) := by decide +kernel
theorem dX12_life_220 : decode cX12_life 220 = .ok (.istore 4, 2) := by decide +kernel
theorem dX12_life_222 : decode cX12_life 222 = .ok (.iload 4, 2) := by decide +kernel
theorem dX12_life_224 : decode cX12_life 224 = .ok (.ifCond .lt 53, 3) := by decide +kernel
theorem dX12_life_227 : decode cX12_life 227 = .ok (.aload_n 0, 1) := by decide +kernel
theorem dX12_life_228 : decode cX12_life 228 = .ok (.getfield 635, 3) := by decide +kernel
theorem dX12_life_231 : decode cX12_life 231 = .ok (.ifCond .ne 46, 3) := by decide +kernel
theorem dX12_life_234 : decode cX12_life 234 = .ok (.aload_n 0, 1) := by decide +kernel
theorem dX12_life_235 : decode cX12_life 235 = .ok (.iconst 0, 1) := by decide +kernel
theorem dX12_life_236 : decode cX12_life 236 = .ok (.putfield 638, 3) := by decide +kernel
theorem dX12_life_239 : decode cX12_life 239 = .ok (.aload_n 0, 1) := by decide +kernel
theorem dX12_life_240 : decode cX12_life 240 = .ok (.aload_n 0, 1) := by decide +kernel
theorem dX12_life_241 : decode cX12_life 241 = .ok (.getfield 33, 3) := by decide +kernel
theorem dX12_life_244 : decode cX12_life 244 = .ok (.iconst 3, 1) := by decide +kernel
theorem dX12_life_245 : decode cX12_life 245 = .ok (.iload_n 3, 1) := by decide +kernel
theorem dX12_life_246 : decode cX12_life 246 = .ok (.imul, 1) := by decide +kernel
theorem dX12_life_247 : decode cX12_life 247 = .ok (.iload 4, 2) := by decide +kernel
theorem dX12_life_249 : decode cX12_life 249 = .ok (.iadd, 1) := by decide +kernel
theorem dX12_life_250 : decode cX12_life 250 = .ok (.iaload, 1) := by decide +kernel
theorem dX12_life_251 : decode cX12_life 251 = .ok (.iconst 0, 1) := by decide +kernel
theorem dX12_life_252 : decode cX12_life 252 = .ok (.invokevirtual 729, 3) := by decide +kernel
theorem dX12_life_255 : decode cX12_life 255 = .ok (.ifCond .eq 16, 3) := by decide +kernel
theorem dX12_life_258 : decode cX12_life 258 = .ok (.aload_n 0, 1) := by decide +kernel
theorem dX12_life_259 : decode cX12_life 259 = .ok (.getfield 717, 3) := by decide +kernel
theorem dX12_life_262 : decode cX12_life 262 = .ok (.iconst 1, 1) := by decide +kernel
theorem dX12_life_263 : decode cX12_life 263 = .ok (.if_icmp .ne 8, 3) := by decide +kernel
theorem dX12_life_266 : decode cX12_life 266 = .ok (.aload_n 0, 1) := by decide +kernel
theorem dX12_life_267 : decode cX12_life 267 = .ok (.iconst 4, 1) := by decide +kernel
theorem dX12_life_268 : decode cX12_life 268 = .ok (.invokevirtual 732, 3) := by decide +kernel
theorem dX12_life_271 : decode cX12_life 271 = .ok (.iinc 4 (-1), 3) := by decide +kernel
theorem dX12_life_274 : decode cX12_life 274 = .ok (.goto (-52), 3) := by decide +kernel
theorem dX12_life_277 : decode cX12_life 277 = .ok (.return_, 1) := by decide +kernel
theorem dX12_isParcel_0 : decode cX12_isParcel 0 = .ok (.iload_n 1, 1) := by decide +kernel
theorem dX12_isParcel_1 : decode cX12_isParcel 1 = .ok (.iconst 0, 1) := by decide +kernel
theorem dX12_isParcel_2 : decode cX12_isParcel 2 = .ok (.aload_n 0, 1) := by decide +kernel
theorem dX12_isParcel_3 : decode cX12_isParcel 3 = .ok (.getfield 582, 3) := by decide +kernel
theorem dX12_isParcel_6 : decode cX12_isParcel 6 = .ok (.iconst 1, 1) := by decide +kernel
theorem dX12_isParcel_7 : decode cX12_isParcel 7 = .ok (.isub, 1) := by decide +kernel
theorem dX12_isParcel_8 : decode cX12_isParcel 8 = .ok (.invokestatic 381, 3) := by decide +kernel
theorem dX12_isParcel_11 : decode cX12_isParcel 11 = .ok (.ireturn, 1) := by decide +kernel
theorem dX12_isCase_0 : decode cX12_isCase 0 = .ok (.aload_n 0, 1) := by decide +kernel
theorem dX12_isCase_1 : decode cX12_isCase 1 = .ok (.iload_n 1, 1) := by decide +kernel
theorem dX12_isCase_2 : decode cX12_isCase 2 = .ok (.invokevirtual 735, 3) := by decide +kernel
theorem dX12_isCase_5 : decode cX12_isCase 5 = .ok (.ifCond .eq 23, 3) := by decide +kernel
theorem dX12_isCase_8 : decode cX12_isCase 8 = .ok (.iload_n 2, 1) := by decide +kernel
theorem dX12_isCase_9 : decode cX12_isCase 9 = .ok (.iconst 0, 1) := by decide +kernel
theorem dX12_isCase_10 : decode cX12_isCase 10 = .ok (.aload_n 0, 1) := by decide +kernel
theorem dX12_isCase_11 : decode cX12_isCase 11 = .ok (.getfield 58, 3) := by decide +kernel
theorem dX12_isCase_14 : decode cX12_isCase 14 = .ok (.iload_n 1, 1) := by decide +kernel
theorem dX12_isCase_15 : decode cX12_isCase 15 = .ok (.iaload, 1) := by decide +kernel
theorem dX12_isCase_16 : decode cX12_isCase 16 = .ok (.iconst 1, 1) := by decide +kernel
theorem dX12_isCase_17 : decode cX12_isCase 17 = .ok (.isub, 1) := by decide +kernel
theorem dX12_isCase_18 : decode cX12_isCase 18 = .ok (.invokestatic 381, 3) := by decide +kernel
theorem dX12_isCase_21 : decode cX12_isCase 21 = .ok (.ifCond .eq 7, 3) := by decide +kernel
theorem dX12_isCase_24 : decode cX12_isCase 24 = .ok (.iconst 1, 1) := by decide +kernel
theorem dX12_isCase_25 : decode cX12_isCase 25 = .ok (.goto 4, 3) := by decide +kernel
theorem dX12_isCase_28 : decode cX12_isCase 28 = .ok (.iconst 0, 1) := by decide +kernel
theorem dX12_isCase_29 : decode cX12_isCase 29 = .ok (.ireturn, 1) := by decide +kernel
theorem dX12_run_0 : decode cX12_run 0 = .ok (.aload_n 0, 1) := by decide +kernel
theorem dX12_run_1 : decode cX12_run 1 = .ok (.iload_n 1, 1) := by decide +kernel
theorem dX12_run_2 : decode cX12_run 2 = .ok (.invokevirtual 735, 3) := by decide +kernel
theorem dX12_run_5 : decode cX12_run 5 = .ok (.ifCond .ne 5, 3) := by decide +kernel
theorem dX12_run_8 : decode cX12_run 8 = .ok (.iconst (-1), 1) := by decide +kernel
theorem dX12_run_9 : decode cX12_run 9 = .ok (.ireturn, 1) := by decide +kernel
theorem dX12_run_10 : decode cX12_run 10 = .ok (.sipush 1000, 3) := by decide +kernel
theorem dX12_run_13 : decode cX12_run 13 = .ok (.iload_n 1, 1) := by decide +kernel
theorem dX12_run_14 : decode cX12_run 14 = .ok (.imul, 1) := by decide +kernel
theorem dX12_run_15 : decode cX12_run 15 = .ok (.istore_n 2, 1) := by decide +kernel
theorem dX12_run_16 : decode cX12_run 16 = .ok (.iload_n 2, 1) := by decide +kernel
theorem dX12_run_17 : decode cX12_run 17 = .ok (.sipush 1000, 3) := by decide +kernel
theorem dX12_run_20 : decode cX12_run 20 = .ok (.iload_n 1, 1) := by decide +kernel
theorem dX12_run_21 : decode cX12_run 21 = .ok (.imul, 1) := by decide +kernel
theorem dX12_run_22 : decode cX12_run 22 = .ok (.aload_n 0, 1) := by decide +kernel
theorem dX12_run_23 : decode cX12_run 23 = .ok (.getfield 94, 3) := by decide +kernel
theorem dX12_run_26 : decode cX12_run 26 = .ok (.iload_n 1, 1) := by decide +kernel
theorem dX12_run_27 : decode cX12_run 27 = .ok (.iaload, 1) := by decide +kernel
theorem dX12_run_28 : decode cX12_run 28 = .ok (.iadd, 1) := by decide +kernel
theorem dX12_run_29 : decode cX12_run 29 = .ok (.if_icmp .ge 30, 3) := by decide +kernel
theorem dX12_run_32 : decode cX12_run 32 = .ok (.aload_n 0, 1) := by decide +kernel
theorem dX12_run_33 : decode cX12_run 33 = .ok (.getfield 249, 3) := by decide +kernel
theorem dX12_run_36 : decode cX12_run 36 = .ok (.iload_n 2, 1) := by decide +kernel
theorem dX12_run_37 : decode cX12_run 37 = .ok (.iconst 0, 1) := by decide +kernel
theorem dX12_run_38 : decode cX12_run 38 = .ok (.iastore, 1) := by decide +kernel
theorem dX12_run_39 : decode cX12_run 39 = .ok (.aload_n 0, 1) := by decide +kernel
theorem dX12_run_40 : decode cX12_run 40 = .ok (.getfield 252, 3) := by decide +kernel
theorem dX12_run_43 : decode cX12_run 43 = .ok (.iload_n 2, 1) := by decide +kernel
theorem dX12_run_44 : decode cX12_run 44 = .ok (.iconst 0, 1) := by decide +kernel
theorem dX12_run_45 : decode cX12_run 45 = .ok (.iastore, 1) := by decide +kernel
theorem dX12_run_46 : decode cX12_run 46 = .ok (.aload_n 0, 1) := by decide +kernel
theorem dX12_run_47 : decode cX12_run 47 = .ok (.getfield 255, 3) := by decide +kernel
theorem dX12_run_50 : decode cX12_run 50 = .ok (.iload_n 2, 1) := by decide +kernel
theorem dX12_run_51 : decode cX12_run 51 = .ok (.iconst (-1), 1) := by decide +kernel
theorem dX12_run_52 : decode cX12_run 52 = .ok (.iastore, 1) := by decide +kernel
theorem dX12_run_53 : decode cX12_run 53 = .ok (.iinc 2 1, 3) := by decide +kernel
theorem dX12_run_56 : decode cX12_run 56 = .ok (.goto (-40), 3) := by decide +kernel
theorem dX12_run_59 : decode cX12_run 59 = .ok (.aload_n 0, 1) := by decide +kernel
theorem dX12_run_60 : decode cX12_run 60 = .ok (.iload_n 1, 1) := by decide +kernel
theorem dX12_run_61 : decode cX12_run 61 = .ok (.iconst (-1), 1) := by decide +kernel
theorem dX12_run_62 : decode cX12_run 62 = .ok (.invokevirtual 738, 3) := by decide +kernel
theorem dX12_run_65 : decode cX12_run 65 = .ok (.aload_n 0, 1) := by decide +kernel
theorem dX12_run_66 : decode cX12_run 66 = .ok (.invokevirtual 741, 3) := by decide +kernel
theorem dX12_run_69 : decode cX12_run 69 = .ok (.aload_n 0, 1) := by decide +kernel
theorem dX12_run_70 : decode cX12_run 70 = .ok (.iconst (-1), 1) := by decide +kernel
theorem dX12_run_71 : decode cX12_run 71 = .ok (.putfield 644, 3) := by decide +kernel
theorem dX12_run_74 : decode cX12_run 74 = .ok (.aload_n 0, 1) := by decide +kernel
theorem dX12_run_75 : decode cX12_run 75 = .ok (.iconst 1, 1) := by decide +kernel
theorem dX12_run_76 : decode cX12_run 76 = .ok (.putfield 653, 3) := by decide +kernel
theorem dX12_run_79 : decode cX12_run 79 = .ok (.iconst 0, 1) := by decide +kernel
theorem dX12_run_80 : decode cX12_run 80 = .ok (.istore_n 2, 1) := by decide +kernel
theorem dX12_run_81 : decode cX12_run 81 = .ok (.iconst 0, 1) := by decide +kernel
theorem dX12_run_82 : decode cX12_run 82 = .ok (.istore_n 3, 1) := by decide +kernel
theorem dX12_run_83 : decode cX12_run 83 = .ok (.iload_n 3, 1) := by decide +kernel
theorem dX12_run_84 : decode cX12_run 84 = .ok (.aload_n 0, 1) := by decide +kernel
theorem dX12_run_85 : decode cX12_run 85 = .ok (.getfield 58, 3) := by decide +kernel
theorem dX12_run_88 : decode cX12_run 88 = .ok (.iload_n 1, 1) := by decide +kernel
theorem dX12_run_89 : decode cX12_run 89 = .ok (.iaload, 1) := by decide +kernel
theorem dX12_run_90 : decode cX12_run 90 = .ok (.if_icmp .ge 113, 3) := by decide +kernel
theorem dX12_run_93 : decode cX12_run 93 = .ok (.aload_n 0, 1) := by decide +kernel
theorem dX12_run_94 : decode cX12_run 94 = .ok (.getfield 79, 3) := by decide +kernel
theorem dX12_run_97 : decode cX12_run 97 = .ok (.bipush 16, 2) := by decide +kernel
theorem dX12_run_99 : decode cX12_run 99 = .ok (.iload_n 1, 1) := by decide +kernel
theorem dX12_run_100 : decode cX12_run 100 = .ok (.imul, 1) := by decide +kernel
theorem dX12_run_101 : decode cX12_run 101 = .ok (.iload_n 3, 1) := by decide +kernel
theorem dX12_run_102 : decode cX12_run 102 = .ok (.iadd, 1) := by decide +kernel
theorem dX12_run_103 : decode cX12_run 103 = .ok (.iaload, 1) := by decide +kernel
theorem dX12_run_104 : decode cX12_run 104 = .ok (.istore 4, 2) := by decide +kernel
theorem dX12_run_106 : decode cX12_run 106 = .ok (.aload_n 0, 1) := by decide +kernel
theorem dX12_run_107 : decode cX12_run 107 = .ok (.iload_n 3, 1) := by decide +kernel
theorem dX12_run_108 : decode cX12_run 108 = .ok (.putfield 656, 3) := by decide +kernel
theorem dX12_run_111 : decode cX12_run 111 = .ok (.aload_n 0, 1) := by decide +kernel
theorem dX12_run_112 : decode cX12_run 112 = .ok (.iload 4, 2) := by decide +kernel
theorem dX12_run_114 : decode cX12_run 114 = .ok (.invokevirtual 744, 3) := by decide +kernel
theorem dX12_run_117 : decode cX12_run 117 = .ok (.aload_n 0, 1) := by decide +kernel
theorem dX12_run_118 : decode cX12_run 118 = .ok (.getfield 267, 3) := by decide +kernel
theorem dX12_run_121 : decode cX12_run 121 = .ok (.bipush 16, 2) := by decide +kernel
theorem dX12_run_123 : decode cX12_run 123 = .ok (.iload_n 1, 1) := by decide +kernel
theorem dX12_run_124 : decode cX12_run 124 = .ok (.imul, 1) := by decide +kernel
theorem dX12_run_125 : decode cX12_run 125 = .ok (.iload 4, 2) := by decide +kernel
theorem dX12_run_127 : decode cX12_run 127 = .ok (.iadd, 1) := by decide +kernel
theorem dX12_run_128 : decode cX12_run 128 = .ok (.aload_n 0, 1) := by decide +kernel
theorem dX12_run_129 : decode cX12_run 129 = .ok (.getfield 717, 3) := by decide +kernel
theorem dX12_run_132 : decode cX12_run 132 = .ok (.iastore, 1) := by decide +kernel
theorem dX12_run_133 : decode cX12_run 133 = .ok (.aload_n 0, 1) := by decide +kernel
theorem dX12_run_134 : decode cX12_run 134 = .ok (.getfield 270, 3) := by decide +kernel
theorem dX12_run_137 : decode cX12_run 137 = .ok (.bipush 16, 2) := by decide +kernel
theorem dX12_run_139 : decode cX12_run 139 = .ok (.iload_n 1, 1) := by decide +kernel
theorem dX12_run_140 : decode cX12_run 140 = .ok (.imul, 1) := by decide +kernel
theorem dX12_run_141 : decode cX12_run 141 = .ok (.iload 4, 2) := by decide +kernel
theorem dX12_run_143 : decode cX12_run 143 = .ok (.iadd, 1) := by decide +kernel
theorem dX12_run_144 : decode cX12_run 144 = .ok (.aload_n 0, 1) := by decide +kernel
theorem dX12_run_145 : decode cX12_run 145 = .ok (.getfield 720, 3) := by decide +kernel
theorem dX12_run_148 : decode cX12_run 148 = .ok (.iastore, 1) := by decide +kernel
theorem dX12_run_149 : decode cX12_run 149 = .ok (.aload_n 0, 1) := by decide +kernel
theorem dX12_run_150 : decode cX12_run 150 = .ok (.getfield 273, 3) := by decide +kernel
theorem dX12_run_153 : decode cX12_run 153 = .ok (.bipush 16, 2) := by decide +kernel
theorem dX12_run_155 : decode cX12_run 155 = .ok (.iload_n 1, 1) := by decide +kernel
theorem dX12_run_156 : decode cX12_run 156 = .ok (.imul, 1) := by decide +kernel
theorem dX12_run_157 : decode cX12_run 157 = .ok (.iload 4, 2) := by decide +kernel
theorem dX12_run_159 : decode cX12_run 159 = .ok (.iadd, 1) := by decide +kernel
theorem dX12_run_160 : decode cX12_run 160 = .ok (.aload_n 0, 1) := by decide +kernel
theorem dX12_run_161 : decode cX12_run 161 = .ok (.getfield 723, 3) := by decide +kernel
theorem dX12_run_164 : decode cX12_run 164 = .ok (.iastore, 1) := by decide +kernel
theorem dX12_run_165 : decode cX12_run 165 = .ok (.aload_n 0, 1) := by decide +kernel
theorem dX12_run_166 : decode cX12_run 166 = .ok (.getfield 276, 3) := by decide +kernel
theorem dX12_run_169 : decode cX12_run 169 = .ok (.bipush 16, 2) := by decide +kernel
theorem dX12_run_171 : decode cX12_run 171 = .ok (.iload_n 1, 1) := by decide +kernel
theorem dX12_run_172 : decode cX12_run 172 = .ok (.imul, 1) := by decide +kernel
theorem dX12_run_173 : decode cX12_run 173 = .ok (.iload 4, 2) := by decide +kernel
theorem dX12_run_175 : decode cX12_run 175 = .ok (.iadd, 1) := by decide +kernel
theorem dX12_run_176 : decode cX12_run 176 = .ok (.aload_n 0, 1) := by decide +kernel
theorem dX12_run_177 : decode cX12_run 177 = .ok (.getfield 650, 3) := by decide +kernel
theorem dX12_run_180 : decode cX12_run 180 = .ok (.iastore, 1) := by decide +kernel
theorem dX12_run_181 : decode cX12_run 181 = .ok (.iload_n 2, 1) := by decide +kernel
theorem dX12_run_182 : decode cX12_run 182 = .ok (.aload_n 0, 1) := by decide +kernel
theorem dX12_run_183 : decode cX12_run 183 = .ok (.getfield 717, 3) := by decide +kernel
theorem dX12_run_186 : decode cX12_run 186 = .ok (.iconst 1, 1) := by decide +kernel
theorem dX12_run_187 : decode cX12_run 187 = .ok (.if_icmp .ne 7, 3) := by decide +kernel
theorem dX12_run_190 : decode cX12_run 190 = .ok (.iconst 1, 1) := by decide +kernel
theorem dX12_run_191 : decode cX12_run 191 = .ok (.goto 4, 3) := by decide +kernel
theorem dX12_run_194 : decode cX12_run 194 = .ok (.iconst 0, 1) := by decide +kernel
theorem dX12_run_195 : decode cX12_run 195 = .ok (.iadd, 1) := by decide +kernel
theorem dX12_run_196 : decode cX12_run 196 = .ok (.istore_n 2, 1) := by decide +kernel
theorem dX12_run_197 : decode cX12_run 197 = .ok (.iinc 3 1, 3) := by decide +kernel
theorem dX12_run_200 : decode cX12_run 200 = .ok (.goto (-117), 3) := by decide +kernel
theorem dX12_run_203 : decode cX12_run 203 = .ok (.aload_n 0, 1) := by decide +kernel
theorem dX12_run_204 : decode cX12_run 204 = .ok (.iconst 0, 1) := by decide +kernel
theorem dX12_run_205 : decode cX12_run 205 = .ok (.putfield 653, 3) := by decide +kernel
theorem dX12_run_208 : decode cX12_run 208 = .ok (.aload_n 0, 1) := by decide +kernel
theorem dX12_run_209 : decode cX12_run 209 = .ok (.iconst 0, 1) := by decide +kernel
theorem dX12_run_210 : decode cX12_run 210 = .ok (.putfield 711, 3) := by decide +kernel
theorem dX12_run_213 : decode cX12_run 213 = .ok (.aload_n 0, 1) := by decide +kernel
theorem dX12_run_214 : decode cX12_run 214 = .ok (.getfield 264, 3) := by decide +kernel
theorem dX12_run_217 : decode cX12_run 217 = .ok (.iload_n 1, 1) := by decide +kernel
theorem dX12_run_218 : decode cX12_run 218 = .ok (.iconst 1, 1) := by decide +kernel
theorem dX12_run_219 : decode cX12_run 219 = .ok (.bastore, 1) := by decide +kernel
theorem dX12_run_220 : decode cX12_run 220 = .ok (.iload_n 2, 1) := by decide +kernel
theorem dX12_run_221 : decode cX12_run 221 = .ok (.ireturn, 1) := by decide +kernel
theorem dX12_verdict_0 : decode cX12_verdict 0 = .ok (.aload_n 0, 1) := by decide +kernel
theorem dX12_verdict_1 : decode cX12_verdict 1 = .ok (.iload_n 1, 1) := by decide +kernel
theorem dX12_verdict_2 : decode cX12_verdict 2 = .ok (.iload_n 2, 1) := by decide +kernel
theorem dX12_verdict_3 : decode cX12_verdict 3 = .ok (.invokevirtual 747, 3) := by decide +kernel
theorem dX12_verdict_6 : decode cX12_verdict 6 = .ok (.ifCond .eq 12, 3) := by decide +kernel
theorem dX12_verdict_9 : decode cX12_verdict 9 = .ok (.iload_n 3, 1) := by decide +kernel
theorem dX12_verdict_10 : decode cX12_verdict 10 = .ok (.iconst 0, 1) := by decide +kernel
theorem dX12_verdict_11 : decode cX12_verdict 11 = .ok (.iconst 3, 1) := by decide +kernel
theorem dX12_verdict_12 : decode cX12_verdict 12 = .ok (.invokestatic 381, 3) := by decide +kernel
theorem dX12_verdict_15 : decode cX12_verdict 15 = .ok (.ifCond .ne 5, 3) := by decide +kernel
theorem dX12_verdict_18 : decode cX12_verdict 18 = .ok (.iconst (-1), 1) := by decide +kernel
theorem dX12_verdict_19 : decode cX12_verdict 19 = .ok (.ireturn, 1) := by decide +kernel
theorem dX12_verdict_20 : decode cX12_verdict 20 = .ok (.aload_n 0, 1) := by decide +kernel
theorem dX12_verdict_21 : decode cX12_verdict 21 = .ok (.getfield 264, 3) := by decide +kernel
theorem dX12_verdict_24 : decode cX12_verdict 24 = .ok (.iload_n 1, 1) := by decide +kernel
theorem dX12_verdict_25 : decode cX12_verdict 25 = .ok (.baload, 1) := by decide +kernel
theorem dX12_verdict_26 : decode cX12_verdict 26 = .ok (.ifCond .ne 6, 3) := by decide +kernel
theorem dX12_verdict_29 : decode cX12_verdict 29 = .ok (.bipush (-2), 2) := by decide +kernel
theorem dX12_verdict_31 : decode cX12_verdict 31 = .ok (.ireturn, 1) := by decide +kernel
theorem dX12_verdict_32 : decode cX12_verdict 32 = .ok (.bipush 16, 2) := by decide +kernel
theorem dX12_verdict_34 : decode cX12_verdict 34 = .ok (.iload_n 1, 1) := by decide +kernel
theorem dX12_verdict_35 : decode cX12_verdict 35 = .ok (.imul, 1) := by decide +kernel
theorem dX12_verdict_36 : decode cX12_verdict 36 = .ok (.iload_n 2, 1) := by decide +kernel
theorem dX12_verdict_37 : decode cX12_verdict 37 = .ok (.iadd, 1) := by decide +kernel
theorem dX12_verdict_38 : decode cX12_verdict 38 = .ok (.istore 4, 2) := by decide +kernel
theorem dX12_verdict_40 : decode cX12_verdict 40 = .ok (.iload_n 3, 1) := by decide +kernel
theorem dX12_verdict_41 : decode cX12_verdict 41 = .ok (.ifCond .ne 13, 3) := by decide +kernel
theorem dX12_verdict_44 : decode cX12_verdict 44 = .ok (.aload_n 0, 1) := by decide +kernel
theorem dX12_verdict_45 : decode cX12_verdict 45 = .ok (.getfield 267, 3) := by decide +kernel
theorem dX12_verdict_48 : decode cX12_verdict 48 = .ok (.iload 4, 2) := by decide +kernel
theorem dX12_verdict_50 : decode cX12_verdict 50 = .ok (.iaload, 1) := by decide +kernel
theorem dX12_verdict_51 : decode cX12_verdict 51 = .ok (.goto 40, 3) := by decide +kernel
theorem dX12_verdict_54 : decode cX12_verdict 54 = .ok (.iload_n 3, 1) := by decide +kernel
theorem dX12_verdict_55 : decode cX12_verdict 55 = .ok (.iconst 1, 1) := by decide +kernel
theorem dX12_verdict_56 : decode cX12_verdict 56 = .ok (.if_icmp .ne 13, 3) := by decide +kernel
theorem dX12_verdict_59 : decode cX12_verdict 59 = .ok (.aload_n 0, 1) := by decide +kernel
theorem dX12_verdict_60 : decode cX12_verdict 60 = .ok (.getfield 270, 3) := by decide +kernel
theorem dX12_verdict_63 : decode cX12_verdict 63 = .ok (.iload 4, 2) := by decide +kernel
theorem dX12_verdict_65 : decode cX12_verdict 65 = .ok (.iaload, 1) := by decide +kernel
theorem dX12_verdict_66 : decode cX12_verdict 66 = .ok (.goto 25, 3) := by decide +kernel
theorem dX12_verdict_69 : decode cX12_verdict 69 = .ok (.iload_n 3, 1) := by decide +kernel
theorem dX12_verdict_70 : decode cX12_verdict 70 = .ok (.iconst 2, 1) := by decide +kernel
theorem dX12_verdict_71 : decode cX12_verdict 71 = .ok (.if_icmp .ne 13, 3) := by decide +kernel
theorem dX12_verdict_74 : decode cX12_verdict 74 = .ok (.aload_n 0, 1) := by decide +kernel
theorem dX12_verdict_75 : decode cX12_verdict 75 = .ok (.getfield 273, 3) := by decide +kernel
theorem dX12_verdict_78 : decode cX12_verdict 78 = .ok (.iload 4, 2) := by decide +kernel
theorem dX12_verdict_80 : decode cX12_verdict 80 = .ok (.iaload, 1) := by decide +kernel
theorem dX12_verdict_81 : decode cX12_verdict 81 = .ok (.goto 10, 3) := by decide +kernel
theorem dX12_verdict_84 : decode cX12_verdict 84 = .ok (.aload_n 0, 1) := by decide +kernel
theorem dX12_verdict_85 : decode cX12_verdict 85 = .ok (.getfield 276, 3) := by decide +kernel
theorem dX12_verdict_88 : decode cX12_verdict 88 = .ok (.iload 4, 2) := by decide +kernel
theorem dX12_verdict_90 : decode cX12_verdict 90 = .ok (.iaload, 1) := by decide +kernel
theorem dX12_verdict_91 : decode cX12_verdict 91 = .ok (.ireturn, 1) := by decide +kernel
theorem dX12_cover_0 : decode cX12_cover 0 = .ok (.aload_n 0, 1) := by decide +kernel
theorem dX12_cover_1 : decode cX12_cover 1 = .ok (.iload_n 1, 1) := by decide +kernel
theorem dX12_cover_2 : decode cX12_cover 2 = .ok (.invokevirtual 735, 3) := by decide +kernel
theorem dX12_cover_5 : decode cX12_cover 5 = .ok (.ifCond .eq 28, 3) := by decide +kernel
theorem dX12_cover_8 : decode cX12_cover 8 = .ok (.iload_n 2, 1) := by decide +kernel
theorem dX12_cover_9 : decode cX12_cover 9 = .ok (.iconst 0, 1) := by decide +kernel
theorem dX12_cover_10 : decode cX12_cover 10 = .ok (.aload_n 0, 1) := by decide +kernel
theorem dX12_cover_11 : decode cX12_cover 11 = .ok (.getfield 94, 3) := by decide +kernel
theorem dX12_cover_14 : decode cX12_cover 14 = .ok (.iload_n 1, 1) := by decide +kernel
theorem dX12_cover_15 : decode cX12_cover 15 = .ok (.iaload, 1) := by decide +kernel
theorem dX12_cover_16 : decode cX12_cover 16 = .ok (.iconst 1, 1) := by decide +kernel
theorem dX12_cover_17 : decode cX12_cover 17 = .ok (.isub, 1) := by decide +kernel
theorem dX12_cover_18 : decode cX12_cover 18 = .ok (.invokestatic 381, 3) := by decide +kernel
theorem dX12_cover_21 : decode cX12_cover 21 = .ok (.ifCond .eq 12, 3) := by decide +kernel
theorem dX12_cover_24 : decode cX12_cover 24 = .ok (.iload_n 3, 1) := by decide +kernel
theorem dX12_cover_25 : decode cX12_cover 25 = .ok (.iconst 0, 1) := by decide +kernel
theorem dX12_cover_26 : decode cX12_cover 26 = .ok (.iconst 1, 1) := by decide +kernel
theorem dX12_cover_27 : decode cX12_cover 27 = .ok (.invokestatic 381, 3) := by decide +kernel
theorem dX12_cover_30 : decode cX12_cover 30 = .ok (.ifCond .ne 5, 3) := by decide +kernel
theorem dX12_cover_33 : decode cX12_cover 33 = .ok (.iconst (-1), 1) := by decide +kernel
theorem dX12_cover_34 : decode cX12_cover 34 = .ok (.ireturn, 1) := by decide +kernel
theorem dX12_cover_35 : decode cX12_cover 35 = .ok (.aload_n 0, 1) := by decide +kernel
theorem dX12_cover_36 : decode cX12_cover 36 = .ok (.getfield 264, 3) := by decide +kernel
theorem dX12_cover_39 : decode cX12_cover 39 = .ok (.iload_n 1, 1) := by decide +kernel
theorem dX12_cover_40 : decode cX12_cover 40 = .ok (.baload, 1) := by decide +kernel
theorem dX12_cover_41 : decode cX12_cover 41 = .ok (.ifCond .ne 8, 3) := by decide +kernel
theorem dX12_cover_44 : decode cX12_cover 44 = .ok (.bipush (-2), 2) := by decide +kernel
theorem dX12_cover_46 : decode cX12_cover 46 = .ok (.goto 34, 3) := by decide +kernel
theorem dX12_cover_49 : decode cX12_cover 49 = .ok (.iload_n 3, 1) := by decide +kernel
theorem dX12_cover_50 : decode cX12_cover 50 = .ok (.ifCond .ne 18, 3) := by decide +kernel
theorem dX12_cover_53 : decode cX12_cover 53 = .ok (.aload_n 0, 1) := by decide +kernel
theorem dX12_cover_54 : decode cX12_cover 54 = .ok (.getfield 249, 3) := by decide +kernel
theorem dX12_cover_57 : decode cX12_cover 57 = .ok (.sipush 1000, 3) := by decide +kernel
theorem dX12_cover_60 : decode cX12_cover 60 = .ok (.iload_n 1, 1) := by decide +kernel
theorem dX12_cover_61 : decode cX12_cover 61 = .ok (.imul, 1) := by decide +kernel
theorem dX12_cover_62 : decode cX12_cover 62 = .ok (.iload_n 2, 1) := by decide +kernel
theorem dX12_cover_63 : decode cX12_cover 63 = .ok (.iadd, 1) := by decide +kernel
theorem dX12_cover_64 : decode cX12_cover 64 = .ok (.iaload, 1) := by decide +kernel
theorem dX12_cover_65 : decode cX12_cover 65 = .ok (.goto 15, 3) := by decide +kernel
theorem dX12_cover_68 : decode cX12_cover 68 = .ok (.aload_n 0, 1) := by decide +kernel
theorem dX12_cover_69 : decode cX12_cover 69 = .ok (.getfield 252, 3) := by decide +kernel
theorem dX12_cover_72 : decode cX12_cover 72 = .ok (.sipush 1000, 3) := by decide +kernel
theorem dX12_cover_75 : decode cX12_cover 75 = .ok (.iload_n 1, 1) := by decide +kernel
theorem dX12_cover_76 : decode cX12_cover 76 = .ok (.imul, 1) := by decide +kernel
theorem dX12_cover_77 : decode cX12_cover 77 = .ok (.iload_n 2, 1) := by decide +kernel
theorem dX12_cover_78 : decode cX12_cover 78 = .ok (.iadd, 1) := by decide +kernel
theorem dX12_cover_79 : decode cX12_cover 79 = .ok (.iaload, 1) := by decide +kernel
theorem dX12_cover_80 : decode cX12_cover 80 = .ok (.ireturn, 1) := by decide +kernel
theorem dX12_aloneIn_0 : decode cX12_aloneIn 0 = .ok (.aload_n 0, 1) := by decide +kernel
theorem dX12_aloneIn_1 : decode cX12_aloneIn 1 = .ok (.invokevirtual 741, 3) := by decide +kernel
theorem dX12_aloneIn_4 : decode cX12_aloneIn 4 = .ok (.aload_n 0, 1) := by decide +kernel
theorem dX12_aloneIn_5 : decode cX12_aloneIn 5 = .ok (.iconst (-1), 1) := by decide +kernel
theorem dX12_aloneIn_6 : decode cX12_aloneIn 6 = .ok (.putfield 644, 3) := by decide +kernel
theorem dX12_aloneIn_9 : decode cX12_aloneIn 9 = .ok (.aload_n 0, 1) := by decide +kernel
theorem dX12_aloneIn_10 : decode cX12_aloneIn 10 = .ok (.iload_n 1, 1) := by decide +kernel
theorem dX12_aloneIn_11 : decode cX12_aloneIn 11 = .ok (.invokevirtual 744, 3) := by decide +kernel
theorem dX12_aloneIn_14 : decode cX12_aloneIn 14 = .ok (.aload_n 0, 1) := by decide +kernel
theorem dX12_aloneIn_15 : decode cX12_aloneIn 15 = .ok (.iconst 0, 1) := by decide +kernel
theorem dX12_aloneIn_16 : decode cX12_aloneIn 16 = .ok (.putfield 711, 3) := by decide +kernel
theorem dX12_aloneIn_19 : decode cX12_aloneIn 19 = .ok (.aload_n 0, 1) := by decide +kernel
theorem dX12_aloneIn_20 : decode cX12_aloneIn 20 = .ok (.iconst 1, 1) := by decide +kernel
theorem dX12_aloneIn_21 : decode cX12_aloneIn 21 = .ok (.putfield 750, 3) := by decide +kernel
theorem dX12_aloneIn_24 : decode cX12_aloneIn 24 = .ok (.aload_n 0, 1) := by decide +kernel
theorem dX12_aloneIn_25 : decode cX12_aloneIn 25 = .ok (.getfield 279, 3) := by decide +kernel
theorem dX12_aloneIn_28 : decode cX12_aloneIn 28 = .ok (.iconst 0, 1) := by decide +kernel
theorem dX12_aloneIn_29 : decode cX12_aloneIn 29 = .ok (.aload_n 0, 1) := by decide +kernel
theorem dX12_aloneIn_30 : decode cX12_aloneIn 30 = .ok (.getfield 720, 3) := by decide +kernel
theorem dX12_aloneIn_33 : decode cX12_aloneIn 33 = .ok (.iastore, 1) := by decide +kernel
theorem dX12_aloneIn_34 : decode cX12_aloneIn 34 = .ok (.aload_n 0, 1) := by decide +kernel
theorem dX12_aloneIn_35 : decode cX12_aloneIn 35 = .ok (.getfield 279, 3) := by decide +kernel
theorem dX12_aloneIn_38 : decode cX12_aloneIn 38 = .ok (.iconst 1, 1) := by decide +kernel
theorem dX12_aloneIn_39 : decode cX12_aloneIn 39 = .ok (.aload_n 0, 1) := by decide +kernel
theorem dX12_aloneIn_40 : decode cX12_aloneIn 40 = .ok (.getfield 723, 3) := by decide +kernel
theorem dX12_aloneIn_43 : decode cX12_aloneIn 43 = .ok (.iastore, 1) := by decide +kernel
theorem dX12_aloneIn_44 : decode cX12_aloneIn 44 = .ok (.aload_n 0, 1) := by decide +kernel
theorem dX12_aloneIn_45 : decode cX12_aloneIn 45 = .ok (.getfield 279, 3) := by decide +kernel
theorem dX12_aloneIn_48 : decode cX12_aloneIn 48 = .ok (.iconst 2, 1) := by decide +kernel
theorem dX12_aloneIn_49 : decode cX12_aloneIn 49 = .ok (.aload_n 0, 1) := by decide +kernel
theorem dX12_aloneIn_50 : decode cX12_aloneIn 50 = .ok (.getfield 650, 3) := by decide +kernel
theorem dX12_aloneIn_53 : decode cX12_aloneIn 53 = .ok (.iastore, 1) := by decide +kernel
theorem dX12_aloneIn_54 : decode cX12_aloneIn 54 = .ok (.aload_n 0, 1) := by decide +kernel
theorem dX12_aloneIn_55 : decode cX12_aloneIn 55 = .ok (.getfield 279, 3) := by decide +kernel
theorem dX12_aloneIn_58 : decode cX12_aloneIn 58 = .ok (.iconst 3, 1) := by decide +kernel
theorem dX12_aloneIn_59 : decode cX12_aloneIn 59 = .ok (.aload_n 0, 1) := by decide +kernel
theorem dX12_aloneIn_60 : decode cX12_aloneIn 60 = .ok (.getfield 685, 3) := by decide +kernel
theorem dX12_aloneIn_63 : decode cX12_aloneIn 63 = .ok (.iastore, 1) := by decide +kernel
theorem dX12_aloneIn_64 : decode cX12_aloneIn 64 = .ok (.aload_n 0, 1) := by decide +kernel
theorem dX12_aloneIn_65 : decode cX12_aloneIn 65 = .ok (.getfield 717, 3) := by decide +kernel
theorem dX12_aloneIn_68 : decode cX12_aloneIn 68 = .ok (.ireturn, 1) := by decide +kernel
theorem dX12_alone_0 : decode cX12_alone 0 = .ok (.aload_n 0, 1) := by decide +kernel
theorem dX12_alone_1 : decode cX12_alone 1 = .ok (.iload_n 1, 1) := by decide +kernel
theorem dX12_alone_2 : decode cX12_alone 2 = .ok (.iload_n 2, 1) := by decide +kernel
theorem dX12_alone_3 : decode cX12_alone 3 = .ok (.invokevirtual 747, 3) := by decide +kernel
theorem dX12_alone_6 : decode cX12_alone 6 = .ok (.ifCond .ne 5, 3) := by decide +kernel
theorem dX12_alone_9 : decode cX12_alone 9 = .ok (.iconst (-1), 1) := by decide +kernel
theorem dX12_alone_10 : decode cX12_alone 10 = .ok (.ireturn, 1) := by decide +kernel
theorem dX12_alone_11 : decode cX12_alone 11 = .ok (.aload_n 0, 1) := by decide +kernel
theorem dX12_alone_12 : decode cX12_alone 12 = .ok (.iload_n 1, 1) := by decide +kernel
theorem dX12_alone_13 : decode cX12_alone 13 = .ok (.iconst (-1), 1) := by decide +kernel
theorem dX12_alone_14 : decode cX12_alone 14 = .ok (.invokevirtual 738, 3) := by decide +kernel
theorem dX12_alone_17 : decode cX12_alone 17 = .ok (.aload_n 0, 1) := by decide +kernel
theorem dX12_alone_18 : decode cX12_alone 18 = .ok (.iload_n 2, 1) := by decide +kernel
theorem dX12_alone_19 : decode cX12_alone 19 = .ok (.invokevirtual 752, 3) := by decide +kernel
theorem dX12_alone_22 : decode cX12_alone 22 = .ok (.ireturn, 1) := by decide +kernel
theorem dX12_told_0 : decode cX12_told 0 = .ok (.aload_n 0, 1) := by decide +kernel
theorem dX12_told_1 : decode cX12_told 1 = .ok (.getfield 750, 3) := by decide +kernel
theorem dX12_told_4 : decode cX12_told 4 = .ok (.ifCond .eq 21, 3) := by decide +kernel
theorem dX12_told_7 : decode cX12_told 7 = .ok (.iload_n 1, 1) := by decide +kernel
theorem dX12_told_8 : decode cX12_told 8 = .ok (.iconst 0, 1) := by decide +kernel
theorem dX12_told_9 : decode cX12_told 9 = .ok (.iconst 3, 1) := by decide +kernel
theorem dX12_told_10 : decode cX12_told 10 = .ok (.invokestatic 381, 3) := by decide +kernel
theorem dX12_told_13 : decode cX12_told 13 = .ok (.ifCond .eq 12, 3) := by decide +kernel
theorem dX12_told_16 : decode cX12_told 16 = .ok (.aload_n 0, 1) := by decide +kernel
theorem dX12_told_17 : decode cX12_told 17 = .ok (.getfield 279, 3) := by decide +kernel
theorem dX12_told_20 : decode cX12_told 20 = .ok (.iload_n 1, 1) := by decide +kernel
theorem dX12_told_21 : decode cX12_told 21 = .ok (.iaload, 1) := by decide +kernel
theorem dX12_told_22 : decode cX12_told 22 = .ok (.goto 4, 3) := by decide +kernel
theorem dX12_told_25 : decode cX12_told 25 = .ok (.iconst (-1), 1) := by decide +kernel
theorem dX12_told_26 : decode cX12_told 26 = .ok (.ireturn, 1) := by decide +kernel
theorem dX12_count_0 : decode cX12_count 0 = .ok (.iload_n 2, 1) := by decide +kernel
theorem dX12_count_1 : decode cX12_count 1 = .ok (.ifCond .ne 8, 3) := by decide +kernel
theorem dX12_count_4 : decode cX12_count 4 = .ok (.aload_n 0, 1) := by decide +kernel
theorem dX12_count_5 : decode cX12_count 5 = .ok (.getfield 582, 3) := by decide +kernel
theorem dX12_count_8 : decode cX12_count 8 = .ok (.ireturn, 1) := by decide +kernel
theorem dX12_count_9 : decode cX12_count 9 = .ok (.aload_n 0, 1) := by decide +kernel
theorem dX12_count_10 : decode cX12_count 10 = .ok (.iload_n 1, 1) := by decide +kernel
theorem dX12_count_11 : decode cX12_count 11 = .ok (.invokevirtual 735, 3) := by decide +kernel
theorem dX12_count_14 : decode cX12_count 14 = .ok (.ifCond .eq 13, 3) := by decide +kernel
theorem dX12_count_17 : decode cX12_count 17 = .ok (.iload_n 2, 1) := by decide +kernel
theorem dX12_count_18 : decode cX12_count 18 = .ok (.iconst 1, 1) := by decide +kernel
theorem dX12_count_19 : decode cX12_count 19 = .ok (.bipush 6, 2) := by decide +kernel
theorem dX12_count_21 : decode cX12_count 21 = .ok (.invokestatic 381, 3) := by decide +kernel
theorem dX12_count_24 : decode cX12_count 24 = .ok (.ifCond .ne 5, 3) := by decide +kernel
theorem dX12_count_27 : decode cX12_count 27 = .ok (.iconst (-1), 1) := by decide +kernel
theorem dX12_count_28 : decode cX12_count 28 = .ok (.ireturn, 1) := by decide +kernel
theorem dX12_count_29 : decode cX12_count 29 = .ok (.iload_n 2, 1) := by decide +kernel
theorem dX12_count_30 : decode cX12_count 30 = .ok (.iconst 1, 1) := by decide +kernel
theorem dX12_count_31 : decode cX12_count 31 = .ok (.if_icmp .ne 12, 3) := by decide +kernel
theorem dX12_count_34 : decode cX12_count 34 = .ok (.aload_n 0, 1) := by decide +kernel
theorem dX12_count_35 : decode cX12_count 35 = .ok (.getfield 13, 3) := by decide +kernel
theorem dX12_count_38 : decode cX12_count 38 = .ok (.iload_n 1, 1) := by decide +kernel
theorem dX12_count_39 : decode cX12_count 39 = .ok (.iaload, 1) := by decide +kernel
theorem dX12_count_40 : decode cX12_count 40 = .ok (.goto 65, 3) := by decide +kernel
theorem dX12_count_43 : decode cX12_count 43 = .ok (.iload_n 2, 1) := by decide +kernel
theorem dX12_count_44 : decode cX12_count 44 = .ok (.iconst 2, 1) := by decide +kernel
theorem dX12_count_45 : decode cX12_count 45 = .ok (.if_icmp .ne 12, 3) := by decide +kernel
theorem dX12_count_48 : decode cX12_count 48 = .ok (.aload_n 0, 1) := by decide +kernel
theorem dX12_count_49 : decode cX12_count 49 = .ok (.getfield 36, 3) := by decide +kernel
theorem dX12_count_52 : decode cX12_count 52 = .ok (.iload_n 1, 1) := by decide +kernel
theorem dX12_count_53 : decode cX12_count 53 = .ok (.iaload, 1) := by decide +kernel
theorem dX12_count_54 : decode cX12_count 54 = .ok (.goto 51, 3) := by decide +kernel
theorem dX12_count_57 : decode cX12_count 57 = .ok (.iload_n 2, 1) := by decide +kernel
theorem dX12_count_58 : decode cX12_count 58 = .ok (.iconst 3, 1) := by decide +kernel
theorem dX12_count_59 : decode cX12_count 59 = .ok (.if_icmp .ne 12, 3) := by decide +kernel
theorem dX12_count_62 : decode cX12_count 62 = .ok (.aload_n 0, 1) := by decide +kernel
theorem dX12_count_63 : decode cX12_count 63 = .ok (.getfield 94, 3) := by decide +kernel
theorem dX12_count_66 : decode cX12_count 66 = .ok (.iload_n 1, 1) := by decide +kernel
theorem dX12_count_67 : decode cX12_count 67 = .ok (.iaload, 1) := by decide +kernel
theorem dX12_count_68 : decode cX12_count 68 = .ok (.goto 37, 3) := by decide +kernel
theorem dX12_count_71 : decode cX12_count 71 = .ok (.iload_n 2, 1) := by decide +kernel
theorem dX12_count_72 : decode cX12_count 72 = .ok (.iconst 4, 1) := by decide +kernel
theorem dX12_count_73 : decode cX12_count 73 = .ok (.if_icmp .ne 12, 3) := by decide +kernel
theorem dX12_count_76 : decode cX12_count 76 = .ok (.aload_n 0, 1) := by decide +kernel
theorem dX12_count_77 : decode cX12_count 77 = .ok (.getfield 58, 3) := by decide +kernel
theorem dX12_count_80 : decode cX12_count 80 = .ok (.iload_n 1, 1) := by decide +kernel
theorem dX12_count_81 : decode cX12_count 81 = .ok (.iaload, 1) := by decide +kernel
theorem dX12_count_82 : decode cX12_count 82 = .ok (.goto 23, 3) := by decide +kernel
theorem dX12_count_85 : decode cX12_count 85 = .ok (.iload_n 2, 1) := by decide +kernel
theorem dX12_count_86 : decode cX12_count 86 = .ok (.iconst 5, 1) := by decide +kernel
theorem dX12_count_87 : decode cX12_count 87 = .ok (.if_icmp .ne 12, 3) := by decide +kernel
theorem dX12_count_90 : decode cX12_count 90 = .ok (.aload_n 0, 1) := by decide +kernel
theorem dX12_count_91 : decode cX12_count 91 = .ok (.getfield 82, 3) := by decide +kernel
theorem dX12_count_94 : decode cX12_count 94 = .ok (.iload_n 1, 1) := by decide +kernel
theorem dX12_count_95 : decode cX12_count 95 = .ok (.iaload, 1) := by decide +kernel
theorem dX12_count_96 : decode cX12_count 96 = .ok (.goto 9, 3) := by decide +kernel
theorem dX12_count_99 : decode cX12_count 99 = .ok (.aload_n 0, 1) := by decide +kernel
theorem dX12_count_100 : decode cX12_count 100 = .ok (.getfield 106, 3) := by decide +kernel
theorem dX12_count_103 : decode cX12_count 103 = .ok (.iload_n 1, 1) := by decide +kernel
theorem dX12_count_104 : decode cX12_count 104 = .ok (.iaload, 1) := by decide +kernel
theorem dX12_count_105 : decode cX12_count 105 = .ok (.ireturn, 1) := by decide +kernel
theorem dX12_member__0 : decode cX12_member_ 0 = .ok (.aload_n 0, 1) := by decide +kernel
theorem dX12_member__1 : decode cX12_member_ 1 = .ok (.iload_n 1, 1) := by decide +kernel
theorem dX12_member__2 : decode cX12_member_ 2 = .ok (.invokevirtual 735, 3) := by decide +kernel
theorem dX12_member__5 : decode cX12_member_ 5 = .ok (.ifCond .eq 28, 3) := by decide +kernel
theorem dX12_member__8 : decode cX12_member_ 8 = .ok (.iload_n 2, 1) := by decide +kernel
theorem dX12_member__9 : decode cX12_member_ 9 = .ok (.iconst 0, 1) := by decide +kernel
theorem dX12_member__10 : decode cX12_member_ 10 = .ok (.aload_n 0, 1) := by decide +kernel
theorem dX12_member__11 : decode cX12_member_ 11 = .ok (.getfield 36, 3) := by decide +kernel
theorem dX12_member__14 : decode cX12_member_ 14 = .ok (.iload_n 1, 1) := by decide +kernel
theorem dX12_member__15 : decode cX12_member_ 15 = .ok (.iaload, 1) := by decide +kernel
theorem dX12_member__16 : decode cX12_member_ 16 = .ok (.iconst 1, 1) := by decide +kernel
theorem dX12_member__17 : decode cX12_member_ 17 = .ok (.isub, 1) := by decide +kernel
theorem dX12_member__18 : decode cX12_member_ 18 = .ok (.invokestatic 381, 3) := by decide +kernel
theorem dX12_member__21 : decode cX12_member_ 21 = .ok (.ifCond .eq 12, 3) := by decide +kernel
theorem dX12_member__24 : decode cX12_member_ 24 = .ok (.iload_n 3, 1) := by decide +kernel
theorem dX12_member__25 : decode cX12_member_ 25 = .ok (.iconst 0, 1) := by decide +kernel
theorem dX12_member__26 : decode cX12_member_ 26 = .ok (.iconst 4, 1) := by decide +kernel
theorem dX12_member__27 : decode cX12_member_ 27 = .ok (.invokestatic 381, 3) := by decide +kernel
theorem dX12_member__30 : decode cX12_member_ 30 = .ok (.ifCond .ne 5, 3) := by decide +kernel
theorem dX12_member__33 : decode cX12_member_ 33 = .ok (.iconst (-1), 1) := by decide +kernel
theorem dX12_member__34 : decode cX12_member_ 34 = .ok (.ireturn, 1) := by decide +kernel
theorem dX12_member__35 : decode cX12_member_ 35 = .ok (.bipush 96, 2) := by decide +kernel
theorem dX12_member__37 : decode cX12_member_ 37 = .ok (.iload_n 1, 1) := by decide +kernel
theorem dX12_member__38 : decode cX12_member_ 38 = .ok (.imul, 1) := by decide +kernel
theorem dX12_member__39 : decode cX12_member_ 39 = .ok (.iload_n 2, 1) := by decide +kernel
theorem dX12_member__40 : decode cX12_member_ 40 = .ok (.iadd, 1) := by decide +kernel
theorem dX12_member__41 : decode cX12_member_ 41 = .ok (.istore 4, 2) := by decide +kernel
theorem dX12_member__43 : decode cX12_member_ 43 = .ok (.iload_n 3, 1) := by decide +kernel
theorem dX12_member__44 : decode cX12_member_ 44 = .ok (.ifCond .ne 13, 3) := by decide +kernel
theorem dX12_member__47 : decode cX12_member_ 47 = .ok (.aload_n 0, 1) := by decide +kernel
theorem dX12_member__48 : decode cX12_member_ 48 = .ok (.getfield 42, 3) := by decide +kernel
theorem dX12_member__51 : decode cX12_member_ 51 = .ok (.iload 4, 2) := by decide +kernel
theorem dX12_member__53 : decode cX12_member_ 53 = .ok (.iaload, 1) := by decide +kernel
theorem dX12_member__54 : decode cX12_member_ 54 = .ok (.goto 58, 3) := by decide +kernel
theorem dX12_member__57 : decode cX12_member_ 57 = .ok (.iload_n 3, 1) := by decide +kernel
theorem dX12_member__58 : decode cX12_member_ 58 = .ok (.iconst 1, 1) := by decide +kernel
theorem dX12_member__59 : decode cX12_member_ 59 = .ok (.if_icmp .ne 13, 3) := by decide +kernel
theorem dX12_member__62 : decode cX12_member_ 62 = .ok (.aload_n 0, 1) := by decide +kernel
theorem dX12_member__63 : decode cX12_member_ 63 = .ok (.getfield 45, 3) := by decide +kernel
theorem dX12_member__66 : decode cX12_member_ 66 = .ok (.iload 4, 2) := by decide +kernel
theorem dX12_member__68 : decode cX12_member_ 68 = .ok (.iaload, 1) := by decide +kernel
theorem dX12_member__69 : decode cX12_member_ 69 = .ok (.goto 43, 3) := by decide +kernel
theorem dX12_member__72 : decode cX12_member_ 72 = .ok (.iload_n 3, 1) := by decide +kernel
theorem dX12_member__73 : decode cX12_member_ 73 = .ok (.iconst 2, 1) := by decide +kernel
theorem dX12_member__74 : decode cX12_member_ 74 = .ok (.if_icmp .ne 16, 3) := by decide +kernel
theorem dX12_member__77 : decode cX12_member_ 77 = .ok (.aload_n 0, 1) := by decide +kernel
theorem dX12_member__78 : decode cX12_member_ 78 = .ok (.getfield 48, 3) := by decide +kernel
theorem dX12_member__81 : decode cX12_member_ 81 = .ok (.iload 4, 2) := by decide +kernel
theorem dX12_member__83 : decode cX12_member_ 83 = .ok (.baload, 1) := by decide +kernel
theorem dX12_member__84 : decode cX12_member_ 84 = .ok (.invokestatic 677, 3) := by decide +kernel
theorem dX12_member__87 : decode cX12_member_ 87 = .ok (.goto 25, 3) := by decide +kernel
theorem dX12_member__90 : decode cX12_member_ 90 = .ok (.iload_n 3, 1) := by decide +kernel
theorem dX12_member__91 : decode cX12_member_ 91 = .ok (.iconst 3, 1) := by decide +kernel
theorem dX12_member__92 : decode cX12_member_ 92 = .ok (.if_icmp .ne 13, 3) := by decide +kernel
theorem dX12_member__95 : decode cX12_member_ 95 = .ok (.aload_n 0, 1) := by decide +kernel
theorem dX12_member__96 : decode cX12_member_ 96 = .ok (.getfield 52, 3) := by decide +kernel
theorem dX12_member__99 : decode cX12_member_ 99 = .ok (.iload 4, 2) := by decide +kernel
theorem dX12_member__101 : decode cX12_member_ 101 = .ok (.iaload, 1) := by decide +kernel
theorem dX12_member__102 : decode cX12_member_ 102 = .ok (.goto 10, 3) := by decide +kernel
theorem dX12_member__105 : decode cX12_member_ 105 = .ok (.aload_n 0, 1) := by decide +kernel
theorem dX12_member__106 : decode cX12_member_ 106 = .ok (.getfield 55, 3) := by decide +kernel
theorem dX12_member__109 : decode cX12_member_ 109 = .ok (.iload 4, 2) := by decide +kernel
theorem dX12_member__111 : decode cX12_member_ 111 = .ok (.iaload, 1) := by decide +kernel
theorem dX12_member__112 : decode cX12_member_ 112 = .ok (.ireturn, 1) := by decide +kernel
theorem dX12_about_0 : decode cX12_about 0 = .ok (.aload_n 0, 1) := by decide +kernel
theorem dX12_about_1 : decode cX12_about 1 = .ok (.iload_n 1, 1) := by decide +kernel
theorem dX12_about_2 : decode cX12_about 2 = .ok (.iload_n 2, 1) := by decide +kernel
theorem dX12_about_3 : decode cX12_about 3 = .ok (.invokevirtual 747, 3) := by decide +kernel
theorem dX12_about_6 : decode cX12_about 6 = .ok (.ifCond .eq 12, 3) := by decide +kernel
theorem dX12_about_9 : decode cX12_about 9 = .ok (.iload_n 3, 1) := by decide +kernel
theorem dX12_about_10 : decode cX12_about 10 = .ok (.iconst 0, 1) := by decide +kernel
theorem dX12_about_11 : decode cX12_about 11 = .ok (.iconst 4, 1) := by decide +kernel
theorem dX12_about_12 : decode cX12_about 12 = .ok (.invokestatic 381, 3) := by decide +kernel
theorem dX12_about_15 : decode cX12_about 15 = .ok (.ifCond .ne 5, 3) := by decide +kernel
theorem dX12_about_18 : decode cX12_about 18 = .ok (.iconst (-1), 1) := by decide +kernel
theorem dX12_about_19 : decode cX12_about 19 = .ok (.ireturn, 1) := by decide +kernel
theorem dX12_about_20 : decode cX12_about 20 = .ok (.bipush 16, 2) := by decide +kernel
theorem dX12_about_22 : decode cX12_about 22 = .ok (.iload_n 1, 1) := by decide +kernel
theorem dX12_about_23 : decode cX12_about 23 = .ok (.imul, 1) := by decide +kernel
theorem dX12_about_24 : decode cX12_about 24 = .ok (.iload_n 2, 1) := by decide +kernel
theorem dX12_about_25 : decode cX12_about 25 = .ok (.iadd, 1) := by decide +kernel
theorem dX12_about_26 : decode cX12_about 26 = .ok (.istore 4, 2) := by decide +kernel
theorem dX12_about_28 : decode cX12_about 28 = .ok (.iload_n 3, 1) := by decide +kernel
theorem dX12_about_29 : decode cX12_about 29 = .ok (.ifCond .ne 13, 3) := by decide +kernel
theorem dX12_about_32 : decode cX12_about 32 = .ok (.aload_n 0, 1) := by decide +kernel
theorem dX12_about_33 : decode cX12_about 33 = .ok (.getfield 64, 3) := by decide +kernel
theorem dX12_about_36 : decode cX12_about 36 = .ok (.iload 4, 2) := by decide +kernel
theorem dX12_about_38 : decode cX12_about 38 = .ok (.iaload, 1) := by decide +kernel
theorem dX12_about_39 : decode cX12_about 39 = .ok (.goto 58, 3) := by decide +kernel
theorem dX12_about_42 : decode cX12_about 42 = .ok (.iload_n 3, 1) := by decide +kernel
theorem dX12_about_43 : decode cX12_about 43 = .ok (.iconst 1, 1) := by decide +kernel
theorem dX12_about_44 : decode cX12_about 44 = .ok (.if_icmp .ne 13, 3) := by decide +kernel
theorem dX12_about_47 : decode cX12_about 47 = .ok (.aload_n 0, 1) := by decide +kernel
theorem dX12_about_48 : decode cX12_about 48 = .ok (.getfield 67, 3) := by decide +kernel
theorem dX12_about_51 : decode cX12_about 51 = .ok (.iload 4, 2) := by decide +kernel
theorem dX12_about_53 : decode cX12_about 53 = .ok (.iaload, 1) := by decide +kernel
theorem dX12_about_54 : decode cX12_about 54 = .ok (.goto 43, 3) := by decide +kernel
theorem dX12_about_57 : decode cX12_about 57 = .ok (.iload_n 3, 1) := by decide +kernel
theorem dX12_about_58 : decode cX12_about 58 = .ok (.iconst 2, 1) := by decide +kernel
theorem dX12_about_59 : decode cX12_about 59 = .ok (.if_icmp .ne 13, 3) := by decide +kernel
theorem dX12_about_62 : decode cX12_about 62 = .ok (.aload_n 0, 1) := by decide +kernel
theorem dX12_about_63 : decode cX12_about 63 = .ok (.getfield 70, 3) := by decide +kernel
theorem dX12_about_66 : decode cX12_about 66 = .ok (.iload 4, 2) := by decide +kernel
theorem dX12_about_68 : decode cX12_about 68 = .ok (.iaload, 1) := by decide +kernel
theorem dX12_about_69 : decode cX12_about 69 = .ok (.goto 28, 3) := by decide +kernel
theorem dX12_about_72 : decode cX12_about 72 = .ok (.iload_n 3, 1) := by decide +kernel
theorem dX12_about_73 : decode cX12_about 73 = .ok (.iconst 3, 1) := by decide +kernel
theorem dX12_about_74 : decode cX12_about 74 = .ok (.if_icmp .ne 16, 3) := by decide +kernel
theorem dX12_about_77 : decode cX12_about 77 = .ok (.aload_n 0, 1) := by decide +kernel
theorem dX12_about_78 : decode cX12_about 78 = .ok (.getfield 73, 3) := by decide +kernel
theorem dX12_about_81 : decode cX12_about 81 = .ok (.iload 4, 2) := by decide +kernel
theorem dX12_about_83 : decode cX12_about 83 = .ok (.baload, 1) := by decide +kernel
theorem dX12_about_84 : decode cX12_about 84 = .ok (.invokestatic 677, 3) := by decide +kernel
theorem dX12_about_87 : decode cX12_about 87 = .ok (.goto 10, 3) := by decide +kernel
theorem dX12_about_90 : decode cX12_about 90 = .ok (.aload_n 0, 1) := by decide +kernel
theorem dX12_about_91 : decode cX12_about 91 = .ok (.getfield 76, 3) := by decide +kernel
theorem dX12_about_94 : decode cX12_about 94 = .ok (.iload 4, 2) := by decide +kernel
theorem dX12_about_96 : decode cX12_about 96 = .ok (.iaload, 1) := by decide +kernel
theorem dX12_about_97 : decode cX12_about 97 = .ok (.ireturn, 1) := by decide +kernel
theorem dX12_name_0 : decode cX12_name 0 = .ok (.aload_n 0, 1) := by decide +kernel
