theorem dX12_partAmong_59 : decode cX12_partAmong 59 = .ok (.ldiv, 1) := by decide +kernel
theorem dX12_partAmong_60 : decode cX12_partAmong 60 = .ok (.l2i, 1) := by decide +kernel
theorem dX12_partAmong_61 : decode cX12_partAmong 61 = .ok (.iastore, 1) := by decide +kernel
theorem dX12_partAmong_62 : decode cX12_partAmong 62 = .ok (.lload 6, 2) := by decide +kernel
theorem dX12_partAmong_64 : decode cX12_partAmong 64 = .ok (.aload_n 0, 1) := by decide +kernel
theorem dX12_partAmong_65 : decode cX12_partAmong 65 = .ok (.getfield 38, 3) := by decide +kernel
theorem dX12_partAmong_68 : decode cX12_partAmong 68 = .ok (.iload 8, 2) := by decide +kernel
theorem dX12_partAmong_70 : decode cX12_partAmong 70 = .ok (.iaload, 1) := by decide +kernel
theorem dX12_partAmong_71 : decode cX12_partAmong 71 = .ok (.i2l, 1) := by decide +kernel
theorem dX12_partAmong_72 : decode cX12_partAmong 72 = .ok (.lsub, 1) := by decide +kernel
theorem dX12_partAmong_73 : decode cX12_partAmong 73 = .ok (.lstore 6, 2) := by decide +kernel
theorem dX12_partAmong_75 : decode cX12_partAmong 75 = .ok (.aload_n 0, 1) := by decide +kernel
theorem dX12_partAmong_76 : decode cX12_partAmong 76 = .ok (.getfield 41, 3) := by decide +kernel
theorem dX12_partAmong_79 : decode cX12_partAmong 79 = .ok (.iload 8, 2) := by decide +kernel
theorem dX12_partAmong_81 : decode cX12_partAmong 81 = .ok (.iconst 0, 1) := by decide +kernel
theorem dX12_partAmong_82 : decode cX12_partAmong 82 = .ok (.bastore, 1) := by decide +kernel
theorem dX12_partAmong_83 : decode cX12_partAmong 83 = .ok (.iinc 8 1, 3) := by decide +kernel
theorem dX12_partAmong_86 : decode cX12_partAmong 86 = .ok (.goto (-50), 3) := by decide +kernel
theorem dX12_partAmong_89 : decode cX12_partAmong 89 = .ok (.lload 6, 2) := by decide +kernel
theorem dX12_partAmong_91 : decode cX12_partAmong 91 = .ok (.lconst 0, 1) := by decide +kernel
theorem dX12_partAmong_92 : decode cX12_partAmong 92 = .ok (.lcmp, 1) := by decide +kernel
theorem dX12_partAmong_93 : decode cX12_partAmong 93 = .ok (.ifCond .le 98, 3) := by decide +kernel
theorem dX12_partAmong_96 : decode cX12_partAmong 96 = .ok (.iconst (-1), 1) := by decide +kernel
theorem dX12_partAmong_97 : decode cX12_partAmong 97 = .ok (.istore 8, 2) := by decide +kernel
theorem dX12_partAmong_99 : decode cX12_partAmong 99 = .ok (.lconst 0, 1) := by decide +kernel
theorem dX12_partAmong_100 : decode cX12_partAmong 100 = .ok (.lstore 9, 2) := by decide +kernel
theorem dX12_partAmong_102 : decode cX12_partAmong 102 = .ok (.iconst 0, 1) := by decide +kernel
theorem dX12_partAmong_103 : decode cX12_partAmong 103 = .ok (.istore 11, 2) := by decide +kernel
theorem dX12_partAmong_105 : decode cX12_partAmong 105 = .ok (.iload 11, 2) := by decide +kernel
theorem dX12_partAmong_107 : decode cX12_partAmong 107 = .ok (.iload_n 3, 1) := by decide +kernel
theorem dX12_partAmong_108 : decode cX12_partAmong 108 = .ok (.if_icmp .ge 55, 3) := by decide +kernel
theorem dX12_partAmong_111 : decode cX12_partAmong 111 = .ok (.lload_n 1, 1) := by decide +kernel
theorem dX12_partAmong_112 : decode cX12_partAmong 112 = .ok (.aload_n 0, 1) := by decide +kernel
theorem dX12_partAmong_113 : decode cX12_partAmong 113 = .ok (.getfield 34, 3) := by decide +kernel
theorem dX12_partAmong_116 : decode cX12_partAmong 116 = .ok (.iload 11, 2) := by decide +kernel
theorem dX12_partAmong_118 : decode cX12_partAmong 118 = .ok (.laload, 1) := by decide +kernel
theorem dX12_partAmong_119 : decode cX12_partAmong 119 = .ok (.lmul, 1) := by decide +kernel
theorem dX12_partAmong_120 : decode cX12_partAmong 120 = .ok (.lload 4, 2) := by decide +kernel
theorem dX12_partAmong_122 : decode cX12_partAmong 122 = .ok (.lrem, 1) := by decide +kernel
theorem dX12_partAmong_123 : decode cX12_partAmong 123 = .ok (.lstore 12, 2) := by decide +kernel
theorem dX12_partAmong_125 : decode cX12_partAmong 125 = .ok (.aload_n 0, 1) := by decide +kernel
theorem dX12_partAmong_126 : decode cX12_partAmong 126 = .ok (.getfield 41, 3) := by decide +kernel
theorem dX12_partAmong_129 : decode cX12_partAmong 129 = .ok (.iload 11, 2) := by decide +kernel
theorem dX12_partAmong_131 : decode cX12_partAmong 131 = .ok (.baload, 1) := by decide +kernel
theorem dX12_partAmong_132 : decode cX12_partAmong 132 = .ok (.ifCond .ne 25, 3) := by decide +kernel
theorem dX12_partAmong_135 : decode cX12_partAmong 135 = .ok (.iload 8, 2) := by decide +kernel
theorem dX12_partAmong_137 : decode cX12_partAmong 137 = .ok (.iconst (-1), 1) := by decide +kernel
theorem dX12_partAmong_138 : decode cX12_partAmong 138 = .ok (.if_icmp .eq 11, 3) := by decide +kernel
theorem dX12_partAmong_141 : decode cX12_partAmong 141 = .ok (.lload 12, 2) := by decide +kernel
theorem dX12_partAmong_143 : decode cX12_partAmong 143 = .ok (.lload 9, 2) := by decide +kernel
theorem dX12_partAmong_145 : decode cX12_partAmong 145 = .ok (.lcmp, 1) := by decide +kernel
theorem dX12_partAmong_146 : decode cX12_partAmong 146 = .ok (.ifCond .le 11, 3) := by decide +kernel
theorem dX12_partAmong_149 : decode cX12_partAmong 149 = .ok (.iload 11, 2) := by decide +kernel
theorem dX12_partAmong_151 : decode cX12_partAmong 151 = .ok (.istore 8, 2) := by decide +kernel
theorem dX12_partAmong_153 : decode cX12_partAmong 153 = .ok (.lload 12, 2) := by decide +kernel
theorem dX12_partAmong_155 : decode cX12_partAmong 155 = .ok (.lstore 9, 2) := by decide +kernel
theorem dX12_partAmong_157 : decode cX12_partAmong 157 = .ok (.iinc 11 1, 3) := by decide +kernel
theorem dX12_partAmong_160 : decode cX12_partAmong 160 = .ok (.goto (-55), 3) := by decide +kernel
theorem dX12_partAmong_163 : decode cX12_partAmong 163 = .ok (.aload_n 0, 1) := by decide +kernel
theorem dX12_partAmong_164 : decode cX12_partAmong 164 = .ok (.getfield 41, 3) := by decide +kernel
theorem dX12_partAmong_167 : decode cX12_partAmong 167 = .ok (.iload 8, 2) := by decide +kernel
theorem dX12_partAmong_169 : decode cX12_partAmong 169 = .ok (.iconst 1, 1) := by decide +kernel
theorem dX12_partAmong_170 : decode cX12_partAmong 170 = .ok (.bastore, 1) := by decide +kernel
theorem dX12_partAmong_171 : decode cX12_partAmong 171 = .ok (.aload_n 0, 1) := by decide +kernel
theorem dX12_partAmong_172 : decode cX12_partAmong 172 = .ok (.getfield 38, 3) := by decide +kernel
theorem dX12_partAmong_175 : decode cX12_partAmong 175 = .ok (.iload 8, 2) := by decide +kernel
theorem dX12_partAmong_177 : decode cX12_partAmong 177 = .ok (.dup2, 1) := by decide +kernel
theorem dX12_partAmong_178 : decode cX12_partAmong 178 = .ok (.iaload, 1) := by decide +kernel
theorem dX12_partAmong_179 : decode cX12_partAmong 179 = .ok (.iconst 1, 1) := by decide +kernel
theorem dX12_partAmong_180 : decode cX12_partAmong 180 = .ok (.iadd, 1) := by decide +kernel
theorem dX12_partAmong_181 : decode cX12_partAmong 181 = .ok (.iastore, 1) := by decide +kernel
theorem dX12_partAmong_182 : decode cX12_partAmong 182 = .ok (.lload 6, 2) := by decide +kernel
theorem dX12_partAmong_184 : decode cX12_partAmong 184 = .ok (.lconst 1, 1) := by decide +kernel
theorem dX12_partAmong_185 : decode cX12_partAmong 185 = .ok (.lsub, 1) := by decide +kernel
theorem dX12_partAmong_186 : decode cX12_partAmong 186 = .ok (.lstore 6, 2) := by decide +kernel
theorem dX12_partAmong_188 : decode cX12_partAmong 188 = .ok (.goto (-99), 3) := by decide +kernel
theorem dX12_partAmong_191 : decode cX12_partAmong 191 = .ok (.return_, 1) := by decide +kernel
theorem dX12_partBy_0 : decode cX12_partBy 0 = .ok (.iconst 0, 1) := by decide +kernel
theorem dX12_partBy_1 : decode cX12_partBy 1 = .ok (.istore_n 3, 1) := by decide +kernel
theorem dX12_partBy_2 : decode cX12_partBy 2 = .ok (.iload_n 3, 1) := by decide +kernel
theorem dX12_partBy_3 : decode cX12_partBy 3 = .ok (.aload_n 2, 1) := by decide +kernel
theorem dX12_partBy_4 : decode cX12_partBy 4 = .ok (.arraylength, 1) := by decide +kernel
theorem dX12_partBy_5 : decode cX12_partBy 5 = .ok (.if_icmp .ge 26, 3) := by decide +kernel
theorem dX12_partBy_8 : decode cX12_partBy 8 = .ok (.aload_n 0, 1) := by decide +kernel
theorem dX12_partBy_9 : decode cX12_partBy 9 = .ok (.getfield 34, 3) := by decide +kernel
theorem dX12_partBy_12 : decode cX12_partBy 12 = .ok (.iload_n 3, 1) := by decide +kernel
theorem dX12_partBy_13 : decode cX12_partBy 13 = .ok (.aload_n 2, 1) := by decide +kernel
theorem dX12_partBy_14 : decode cX12_partBy 14 = .ok (.iload_n 3, 1) := by decide +kernel
theorem dX12_partBy_15 : decode cX12_partBy 15 = .ok (.iaload, 1) := by decide +kernel
theorem dX12_partBy_16 : decode cX12_partBy 16 = .ok (.i2l, 1) := by decide +kernel
theorem dX12_partBy_17 : decode cX12_partBy 17 = .ok (.lastore, 1) := by decide +kernel
theorem dX12_partBy_18 : decode cX12_partBy 18 = .ok (.aload_n 0, 1) := by decide +kernel
theorem dX12_partBy_19 : decode cX12_partBy 19 = .ok (.getfield 38, 3) := by decide +kernel
theorem dX12_partBy_22 : decode cX12_partBy 22 = .ok (.iload_n 3, 1) := by decide +kernel
theorem dX12_partBy_23 : decode cX12_partBy 23 = .ok (.iconst 0, 1) := by decide +kernel
theorem dX12_partBy_24 : decode cX12_partBy 24 = .ok (.iastore, 1) := by decide +kernel
theorem dX12_partBy_25 : decode cX12_partBy 25 = .ok (.iinc 3 1, 3) := by decide +kernel
theorem dX12_partBy_28 : decode cX12_partBy 28 = .ok (.goto (-26), 3) := by decide +kernel
theorem dX12_partBy_31 : decode cX12_partBy 31 = .ok (.iload_n 1, 1) := by decide +kernel
theorem dX12_partBy_32 : decode cX12_partBy 32 = .ok (.ifCond .le 11, 3) := by decide +kernel
theorem dX12_partBy_35 : decode cX12_partBy 35 = .ok (.aload_n 0, 1) := by decide +kernel
theorem dX12_partBy_36 : decode cX12_partBy 36 = .ok (.iload_n 1, 1) := by decide +kernel
theorem dX12_partBy_37 : decode cX12_partBy 37 = .ok (.i2l, 1) := by decide +kernel
theorem dX12_partBy_38 : decode cX12_partBy 38 = .ok (.aload_n 2, 1) := by decide +kernel
theorem dX12_partBy_39 : decode cX12_partBy 39 = .ok (.arraylength, 1) := by decide +kernel
theorem dX12_partBy_40 : decode cX12_partBy 40 = .ok (.invokevirtual 173, 3) := by decide +kernel
theorem dX12_partBy_43 : decode cX12_partBy 43 = .ok (.return_, 1) := by decide +kernel
theorem dX12_bog_0 : decode cX12_bog 0 = .ok (.aload_n 0, 1) := by decide +kernel
theorem dX12_bog_1 : decode cX12_bog 1 = .ok (.getfield 166, 3) := by decide +kernel
theorem dX12_bog_4 : decode cX12_bog 4 = .ok (.bipush 12, 2) := by decide +kernel
theorem dX12_bog_6 : decode cX12_bog 6 = .ok (.if_icmp .eq 34, 3) := by decide +kernel
theorem dX12_bog_9 : decode cX12_bog 9 = .ok (.iload_n 1, 1) := by decide +kernel
theorem dX12_bog_10 : decode cX12_bog 10 = .ok (.iconst 0, 1) := by decide +kernel
theorem dX12_bog_11 : decode cX12_bog 11 = .ok (.ldc 177, 2) := by decide +kernel
theorem dX12_bog_13 : decode cX12_bog 13 = .ok (.invokestatic 169, 3) := by decide +kernel
theorem dX12_bog_16 : decode cX12_bog 16 = .ok (.ifCond .eq 24, 3) := by decide +kernel
theorem dX12_bog_19 : decode cX12_bog 19 = .ok (.iload_n 2, 1) := by decide +kernel
theorem dX12_bog_20 : decode cX12_bog 20 = .ok (.iconst 0, 1) := by decide +kernel
theorem dX12_bog_21 : decode cX12_bog 21 = .ok (.sipush 5000, 3) := by decide +kernel
theorem dX12_bog_24 : decode cX12_bog 24 = .ok (.invokestatic 169, 3) := by decide +kernel
theorem dX12_bog_27 : decode cX12_bog 27 = .ok (.ifCond .eq 13, 3) := by decide +kernel
theorem dX12_bog_30 : decode cX12_bog 30 = .ok (.iload_n 3, 1) := by decide +kernel
theorem dX12_bog_31 : decode cX12_bog 31 = .ok (.iconst 0, 1) := by decide +kernel
theorem dX12_bog_32 : decode cX12_bog 32 = .ok (.bipush 20, 2) := by decide +kernel
theorem dX12_bog_34 : decode cX12_bog 34 = .ok (.invokestatic 169, 3) := by decide +kernel
theorem dX12_bog_37 : decode cX12_bog 37 = .ok (.ifCond .ne 5, 3) := by decide +kernel
theorem dX12_bog_40 : decode cX12_bog 40 = .ok (.iconst (-1), 1) := by decide +kernel
theorem dX12_bog_41 : decode cX12_bog 41 = .ok (.ireturn, 1) := by decide +kernel
theorem dX12_bog_42 : decode cX12_bog 42 = .ok (.aload_n 0, 1) := by decide +kernel
theorem dX12_bog_43 : decode cX12_bog 43 = .ok (.getfield 9, 3) := by decide +kernel
theorem dX12_bog_46 : decode cX12_bog 46 = .ok (.aload_n 0, 1) := by decide +kernel
theorem dX12_bog_47 : decode cX12_bog 47 = .ok (.getfield 166, 3) := by decide +kernel
theorem dX12_bog_50 : decode cX12_bog 50 = .ok (.iload_n 1, 1) := by decide +kernel
theorem dX12_bog_51 : decode cX12_bog 51 = .ok (.iastore, 1) := by decide +kernel
theorem dX12_bog_52 : decode cX12_bog 52 = .ok (.aload_n 0, 1) := by decide +kernel
theorem dX12_bog_53 : decode cX12_bog 53 = .ok (.getfield 13, 3) := by decide +kernel
theorem dX12_bog_56 : decode cX12_bog 56 = .ok (.aload_n 0, 1) := by decide +kernel
theorem dX12_bog_57 : decode cX12_bog 57 = .ok (.getfield 166, 3) := by decide +kernel
theorem dX12_bog_60 : decode cX12_bog 60 = .ok (.iload_n 2, 1) := by decide +kernel
theorem dX12_bog_61 : decode cX12_bog 61 = .ok (.iastore, 1) := by decide +kernel
theorem dX12_bog_62 : decode cX12_bog 62 = .ok (.aload_n 0, 1) := by decide +kernel
theorem dX12_bog_63 : decode cX12_bog 63 = .ok (.getfield 16, 3) := by decide +kernel
theorem dX12_bog_66 : decode cX12_bog 66 = .ok (.aload_n 0, 1) := by decide +kernel
theorem dX12_bog_67 : decode cX12_bog 67 = .ok (.getfield 166, 3) := by decide +kernel
theorem dX12_bog_70 : decode cX12_bog 70 = .ok (.iload_n 3, 1) := by decide +kernel
theorem dX12_bog_71 : decode cX12_bog 71 = .ok (.iastore, 1) := by decide +kernel
theorem dX12_bog_72 : decode cX12_bog 72 = .ok (.aload_n 0, 1) := by decide +kernel
theorem dX12_bog_73 : decode cX12_bog 73 = .ok (.getfield 19, 3) := by decide +kernel
theorem dX12_bog_76 : decode cX12_bog 76 = .ok (.aload_n 0, 1) := by decide +kernel
theorem dX12_bog_77 : decode cX12_bog 77 = .ok (.getfield 166, 3) := by decide +kernel
theorem dX12_bog_80 : decode cX12_bog 80 = .ok (.iconst 0, 1) := by decide +kernel
theorem dX12_bog_81 : decode cX12_bog 81 = .ok (.iastore, 1) := by decide +kernel
theorem dX12_bog_82 : decode cX12_bog 82 = .ok (.aload_n 0, 1) := by decide +kernel
theorem dX12_bog_83 : decode cX12_bog 83 = .ok (.getfield 22, 3) := by decide +kernel
theorem dX12_bog_86 : decode cX12_bog 86 = .ok (.aload_n 0, 1) := by decide +kernel
theorem dX12_bog_87 : decode cX12_bog 87 = .ok (.getfield 166, 3) := by decide +kernel
theorem dX12_bog_90 : decode cX12_bog 90 = .ok (.sipush 1000, 3) := by decide +kernel
theorem dX12_bog_93 : decode cX12_bog 93 = .ok (.iastore, 1) := by decide +kernel
theorem dX12_bog_94 : decode cX12_bog 94 = .ok (.aload_n 0, 1) := by decide +kernel
theorem dX12_bog_95 : decode cX12_bog 95 = .ok (.getfield 25, 3) := by decide +kernel
theorem dX12_bog_98 : decode cX12_bog 98 = .ok (.aload_n 0, 1) := by decide +kernel
theorem dX12_bog_99 : decode cX12_bog 99 = .ok (.getfield 166, 3) := by decide +kernel
theorem dX12_bog_102 : decode cX12_bog 102 = .ok (.iconst (-1), 1) := by decide +kernel
theorem dX12_bog_103 : decode cX12_bog 103 = .ok (.iastore, 1) := by decide +kernel
theorem dX12_bog_104 : decode cX12_bog 104 = .ok (.aload_n 0, 1) := by decide +kernel
theorem dX12_bog_105 : decode cX12_bog 105 = .ok (.dup, 1) := by decide +kernel
theorem dX12_bog_106 : decode cX12_bog 106 = .ok (.getfield 166, 3) := by decide +kernel
theorem dX12_bog_109 : decode cX12_bog 109 = .ok (.iconst 1, 1) := by decide +kernel
theorem dX12_bog_110 : decode cX12_bog 110 = .ok (.iadd, 1) := by decide +kernel
theorem dX12_bog_111 : decode cX12_bog 111 = .ok (.putfield 166, 3) := by decide +kernel
theorem dX12_bog_114 : decode cX12_bog 114 = .ok (.aload_n 0, 1) := by decide +kernel
theorem dX12_bog_115 : decode cX12_bog 115 = .ok (.getfield 166, 3) := by decide +kernel
theorem dX12_bog_118 : decode cX12_bog 118 = .ok (.iconst 1, 1) := by decide +kernel
theorem dX12_bog_119 : decode cX12_bog 119 = .ok (.isub, 1) := by decide +kernel
theorem dX12_bog_120 : decode cX12_bog 120 = .ok (.ireturn, 1) := by decide +kernel
theorem dX12_test_0 : decode cX12_test 0 = .ok (.aload_n 0, 1) := by decide +kernel
theorem dX12_test_1 : decode cX12_test 1 = .ok (.iload_n 1, 1) := by decide +kernel
theorem dX12_test_2 : decode cX12_test 2 = .ok (.invokevirtual 178, 3) := by decide +kernel
theorem dX12_test_5 : decode cX12_test 5 = .ok (.ifCond .eq 45, 3) := by decide +kernel
theorem dX12_test_8 : decode cX12_test 8 = .ok (.iload_n 2, 1) := by decide +kernel
theorem dX12_test_9 : decode cX12_test 9 = .ok (.iconst 0, 1) := by decide +kernel
theorem dX12_test_10 : decode cX12_test 10 = .ok (.sipush 1000, 3) := by decide +kernel
theorem dX12_test_13 : decode cX12_test 13 = .ok (.invokestatic 169, 3) := by decide +kernel
theorem dX12_test_16 : decode cX12_test 16 = .ok (.ifCond .eq 34, 3) := by decide +kernel
theorem dX12_test_19 : decode cX12_test 19 = .ok (.iload_n 3, 1) := by decide +kernel
theorem dX12_test_20 : decode cX12_test 20 = .ok (.iload_n 2, 1) := by decide +kernel
theorem dX12_test_21 : decode cX12_test 21 = .ok (.sipush 1000, 3) := by decide +kernel
theorem dX12_test_24 : decode cX12_test 24 = .ok (.invokestatic 169, 3) := by decide +kernel
theorem dX12_test_27 : decode cX12_test 27 = .ok (.ifCond .eq 23, 3) := by decide +kernel
theorem dX12_test_30 : decode cX12_test 30 = .ok (.iload_n 2, 1) := by decide +kernel
theorem dX12_test_31 : decode cX12_test 31 = .ok (.aload_n 0, 1) := by decide +kernel
theorem dX12_test_32 : decode cX12_test 32 = .ok (.getfield 22, 3) := by decide +kernel
theorem dX12_test_35 : decode cX12_test 35 = .ok (.iload_n 1, 1) := by decide +kernel
theorem dX12_test_36 : decode cX12_test 36 = .ok (.iaload, 1) := by decide +kernel
theorem dX12_test_37 : decode cX12_test 37 = .ok (.if_icmp .gt 13, 3) := by decide +kernel
theorem dX12_test_40 : decode cX12_test 40 = .ok (.iload_n 3, 1) := by decide +kernel
theorem dX12_test_41 : decode cX12_test 41 = .ok (.aload_n 0, 1) := by decide +kernel
theorem dX12_test_42 : decode cX12_test 42 = .ok (.getfield 19, 3) := by decide +kernel
theorem dX12_test_45 : decode cX12_test 45 = .ok (.iload_n 1, 1) := by decide +kernel
theorem dX12_test_46 : decode cX12_test 46 = .ok (.iaload, 1) := by decide +kernel
theorem dX12_test_47 : decode cX12_test 47 = .ok (.if_icmp .ge 5, 3) := by decide +kernel
theorem dX12_test_50 : decode cX12_test 50 = .ok (.iconst 0, 1) := by decide +kernel
theorem dX12_test_51 : decode cX12_test 51 = .ok (.ireturn, 1) := by decide +kernel
theorem dX12_test_52 : decode cX12_test 52 = .ok (.aload_n 0, 1) := by decide +kernel
theorem dX12_test_53 : decode cX12_test 53 = .ok (.getfield 19, 3) := by decide +kernel
theorem dX12_test_56 : decode cX12_test 56 = .ok (.iload_n 1, 1) := by decide +kernel
theorem dX12_test_57 : decode cX12_test 57 = .ok (.aload_n 0, 1) := by decide +kernel
theorem dX12_test_58 : decode cX12_test 58 = .ok (.getfield 19, 3) := by decide +kernel
theorem dX12_test_61 : decode cX12_test 61 = .ok (.iload_n 1, 1) := by decide +kernel
theorem dX12_test_62 : decode cX12_test 62 = .ok (.iaload, 1) := by decide +kernel
theorem dX12_test_63 : decode cX12_test 63 = .ok (.iload_n 2, 1) := by decide +kernel
theorem dX12_test_64 : decode cX12_test 64 = .ok (.invokestatic 182, 3) := by decide +kernel
theorem dX12_test_67 : decode cX12_test 67 = .ok (.iastore, 1) := by decide +kernel
theorem dX12_test_68 : decode cX12_test 68 = .ok (.aload_n 0, 1) := by decide +kernel
theorem dX12_test_69 : decode cX12_test 69 = .ok (.getfield 22, 3) := by decide +kernel
theorem dX12_test_72 : decode cX12_test 72 = .ok (.iload_n 1, 1) := by decide +kernel
theorem dX12_test_73 : decode cX12_test 73 = .ok (.aload_n 0, 1) := by decide +kernel
theorem dX12_test_74 : decode cX12_test 74 = .ok (.getfield 22, 3) := by decide +kernel
theorem dX12_test_77 : decode cX12_test 77 = .ok (.iload_n 1, 1) := by decide +kernel
theorem dX12_test_78 : decode cX12_test 78 = .ok (.iaload, 1) := by decide +kernel
theorem dX12_test_79 : decode cX12_test 79 = .ok (.iload_n 3, 1) := by decide +kernel
theorem dX12_test_80 : decode cX12_test 80 = .ok (.invokestatic 188, 3) := by decide +kernel
theorem dX12_test_83 : decode cX12_test 83 = .ok (.iastore, 1) := by decide +kernel
theorem dX12_test_84 : decode cX12_test 84 = .ok (.iconst 1, 1) := by decide +kernel
theorem dX12_test_85 : decode cX12_test 85 = .ok (.ireturn, 1) := by decide +kernel
theorem dX12_dig_0 : decode cX12_dig 0 = .ok (.aload_n 0, 1) := by decide +kernel
theorem dX12_dig_1 : decode cX12_dig 1 = .ok (.iload_n 1, 1) := by decide +kernel
theorem dX12_dig_2 : decode cX12_dig 2 = .ok (.invokevirtual 178, 3) := by decide +kernel
theorem dX12_dig_5 : decode cX12_dig 5 = .ok (.ifCond .eq 18, 3) := by decide +kernel
theorem dX12_dig_8 : decode cX12_dig 8 = .ok (.iload_n 2, 1) := by decide +kernel
theorem dX12_dig_9 : decode cX12_dig 9 = .ok (.iconst 1, 1) := by decide +kernel
theorem dX12_dig_10 : decode cX12_dig 10 = .ok (.if_icmp .lt 13, 3) := by decide +kernel
theorem dX12_dig_13 : decode cX12_dig 13 = .ok (.iload_n 2, 1) := by decide +kernel
theorem dX12_dig_14 : decode cX12_dig 14 = .ok (.aload_n 0, 1) := by decide +kernel
theorem dX12_dig_15 : decode cX12_dig 15 = .ok (.getfield 9, 3) := by decide +kernel
theorem dX12_dig_18 : decode cX12_dig 18 = .ok (.iload_n 1, 1) := by decide +kernel
theorem dX12_dig_19 : decode cX12_dig 19 = .ok (.iaload, 1) := by decide +kernel
theorem dX12_dig_20 : decode cX12_dig 20 = .ok (.if_icmp .le 5, 3) := by decide +kernel
theorem dX12_dig_23 : decode cX12_dig 23 = .ok (.iconst (-1), 1) := by decide +kernel
theorem dX12_dig_24 : decode cX12_dig 24 = .ok (.ireturn, 1) := by decide +kernel
theorem dX12_dig_25 : decode cX12_dig 25 = .ok (.aload_n 0, 1) := by decide +kernel
theorem dX12_dig_26 : decode cX12_dig 26 = .ok (.getfield 25, 3) := by decide +kernel
theorem dX12_dig_29 : decode cX12_dig 29 = .ok (.iload_n 1, 1) := by decide +kernel
theorem dX12_dig_30 : decode cX12_dig 30 = .ok (.iaload, 1) := by decide +kernel
theorem dX12_dig_31 : decode cX12_dig 31 = .ok (.iconst (-1), 1) := by decide +kernel
theorem dX12_dig_32 : decode cX12_dig 32 = .ok (.if_icmp .eq 36, 3) := by decide +kernel
theorem dX12_dig_35 : decode cX12_dig 35 = .ok (.aload_n 0, 1) := by decide +kernel
theorem dX12_dig_36 : decode cX12_dig 36 = .ok (.getfield 25, 3) := by decide +kernel
theorem dX12_dig_39 : decode cX12_dig 39 = .ok (.iload_n 1, 1) := by decide +kernel
theorem dX12_dig_40 : decode cX12_dig 40 = .ok (.iaload, 1) := by decide +kernel
theorem dX12_dig_41 : decode cX12_dig 41 = .ok (.aload_n 0, 1) := by decide +kernel
theorem dX12_dig_42 : decode cX12_dig 42 = .ok (.getfield 191, 3) := by decide +kernel
theorem dX12_dig_45 : decode cX12_dig 45 = .ok (.if_icmp .eq 23, 3) := by decide +kernel
theorem dX12_dig_48 : decode cX12_dig 48 = .ok (.aload_n 0, 1) := by decide +kernel
theorem dX12_dig_49 : decode cX12_dig 49 = .ok (.getfield 191, 3) := by decide +kernel
theorem dX12_dig_52 : decode cX12_dig 52 = .ok (.aload_n 0, 1) := by decide +kernel
theorem dX12_dig_53 : decode cX12_dig 53 = .ok (.getfield 25, 3) := by decide +kernel
theorem dX12_dig_56 : decode cX12_dig 56 = .ok (.iload_n 1, 1) := by decide +kernel
theorem dX12_dig_57 : decode cX12_dig 57 = .ok (.iaload, 1) := by decide +kernel
theorem dX12_dig_58 : decode cX12_dig 58 = .ok (.isub, 1) := by decide +kernel
theorem dX12_dig_59 : decode cX12_dig 59 = .ok (.aload_n 0, 1) := by decide +kernel
theorem dX12_dig_60 : decode cX12_dig 60 = .ok (.getfield 16, 3) := by decide +kernel
theorem dX12_dig_63 : decode cX12_dig 63 = .ok (.iload_n 1, 1) := by decide +kernel
theorem dX12_dig_64 : decode cX12_dig 64 = .ok (.iaload, 1) := by decide +kernel
theorem dX12_dig_65 : decode cX12_dig 65 = .ok (.if_icmp .lt 7, 3) := by decide +kernel
theorem dX12_dig_68 : decode cX12_dig 68 = .ok (.iconst 1, 1) := by decide +kernel
theorem dX12_dig_69 : decode cX12_dig 69 = .ok (.goto 4, 3) := by decide +kernel
theorem dX12_dig_72 : decode cX12_dig 72 = .ok (.iconst 0, 1) := by decide +kernel
theorem dX12_dig_73 : decode cX12_dig 73 = .ok (.istore_n 3, 1) := by decide +kernel
theorem dX12_dig_74 : decode cX12_dig 74 = .ok (.iload_n 3, 1) := by decide +kernel
theorem dX12_dig_75 : decode cX12_dig 75 = .ok (.ifCond .ne 5, 3) := by decide +kernel
theorem dX12_dig_78 : decode cX12_dig 78 = .ok (.iconst (-1), 1) := by decide +kernel
theorem dX12_dig_79 : decode cX12_dig 79 = .ok (.ireturn, 1) := by decide +kernel
theorem dX12_dig_80 : decode cX12_dig 80 = .ok (.aload_n 0, 1) := by decide +kernel
theorem dX12_dig_81 : decode cX12_dig 81 = .ok (.getfield 9, 3) := by decide +kernel
theorem dX12_dig_84 : decode cX12_dig 84 = .ok (.iload_n 1, 1) := by decide +kernel
theorem dX12_dig_85 : decode cX12_dig 85 = .ok (.dup2, 1) := by decide +kernel
theorem dX12_dig_86 : decode cX12_dig 86 = .ok (.iaload, 1) := by decide +kernel
theorem dX12_dig_87 : decode cX12_dig 87 = .ok (.iload_n 2, 1) := by decide +kernel
theorem dX12_dig_88 : decode cX12_dig 88 = .ok (.isub, 1) := by decide +kernel
theorem dX12_dig_89 : decode cX12_dig 89 = .ok (.iastore, 1) := by decide +kernel
theorem dX12_dig_90 : decode cX12_dig 90 = .ok (.aload_n 0, 1) := by decide +kernel
theorem dX12_dig_91 : decode cX12_dig 91 = .ok (.getfield 28, 3) := by decide +kernel
theorem dX12_dig_94 : decode cX12_dig 94 = .ok (.iload_n 1, 1) := by decide +kernel
theorem dX12_dig_95 : decode cX12_dig 95 = .ok (.dup2, 1) := by decide +kernel
theorem dX12_dig_96 : decode cX12_dig 96 = .ok (.iaload, 1) := by decide +kernel
theorem dX12_dig_97 : decode cX12_dig 97 = .ok (.iload_n 2, 1) := by decide +kernel
theorem dX12_dig_98 : decode cX12_dig 98 = .ok (.iadd, 1) := by decide +kernel
theorem dX12_dig_99 : decode cX12_dig 99 = .ok (.iastore, 1) := by decide +kernel
theorem dX12_dig_100 : decode cX12_dig 100 = .ok (.aload_n 0, 1) := by decide +kernel
theorem dX12_dig_101 : decode cX12_dig 101 = .ok (.getfield 25, 3) := by decide +kernel
theorem dX12_dig_104 : decode cX12_dig 104 = .ok (.iload_n 1, 1) := by decide +kernel
theorem dX12_dig_105 : decode cX12_dig 105 = .ok (.aload_n 0, 1) := by decide +kernel
theorem dX12_dig_106 : decode cX12_dig 106 = .ok (.getfield 191, 3) := by decide +kernel
theorem dX12_dig_109 : decode cX12_dig 109 = .ok (.iastore, 1) := by decide +kernel
theorem dX12_dig_110 : decode cX12_dig 110 = .ok (.aload_n 0, 1) := by decide +kernel
theorem dX12_dig_111 : decode cX12_dig 111 = .ok (.getfield 28, 3) := by decide +kernel
theorem dX12_dig_114 : decode cX12_dig 114 = .ok (.iload_n 1, 1) := by decide +kernel
theorem dX12_dig_115 : decode cX12_dig 115 = .ok (.iaload, 1) := by decide +kernel
theorem dX12_dig_116 : decode cX12_dig 116 = .ok (.ireturn, 1) := by decide +kernel
theorem dX12_coal_0 : decode cX12_coal 0 = .ok (.iload_n 1, 1) := by decide +kernel
theorem dX12_coal_1 : decode cX12_coal 1 = .ok (.iconst 0, 1) := by decide +kernel
theorem dX12_coal_2 : decode cX12_coal 2 = .ok (.bipush 7, 2) := by decide +kernel
theorem dX12_coal_4 : decode cX12_coal 4 = .ok (.invokestatic 169, 3) := by decide +kernel
theorem dX12_coal_7 : decode cX12_coal 7 = .ok (.ifCond .eq 27, 3) := by decide +kernel
theorem dX12_coal_10 : decode cX12_coal 10 = .ok (.iload_n 2, 1) := by decide +kernel
theorem dX12_coal_11 : decode cX12_coal 11 = .ok (.iconst 1, 1) := by decide +kernel
theorem dX12_coal_12 : decode cX12_coal 12 = .ok (.sipush 10000, 3) := by decide +kernel
theorem dX12_coal_15 : decode cX12_coal 15 = .ok (.invokestatic 169, 3) := by decide +kernel
theorem dX12_coal_18 : decode cX12_coal 18 = .ok (.ifCond .eq 16, 3) := by decide +kernel
theorem dX12_coal_21 : decode cX12_coal 21 = .ok (.aload_n 0, 1) := by decide +kernel
theorem dX12_coal_22 : decode cX12_coal 22 = .ok (.getfield 31, 3) := by decide +kernel
theorem dX12_coal_25 : decode cX12_coal 25 = .ok (.iload_n 1, 1) := by decide +kernel
theorem dX12_coal_26 : decode cX12_coal 26 = .ok (.iaload, 1) := by decide +kernel
theorem dX12_coal_27 : decode cX12_coal 27 = .ok (.iload_n 2, 1) := by decide +kernel
theorem dX12_coal_28 : decode cX12_coal 28 = .ok (.iadd, 1) := by decide +kernel
theorem dX12_coal_29 : decode cX12_coal 29 = .ok (.ldc 194, 2) := by decide +kernel
theorem dX12_coal_31 : decode cX12_coal 31 = .ok (.if_icmp .le 5, 3) := by decide +kernel
theorem dX12_coal_34 : decode cX12_coal 34 = .ok (.iconst (-1), 1) := by decide +kernel
theorem dX12_coal_35 : decode cX12_coal 35 = .ok (.ireturn, 1) := by decide +kernel
theorem dX12_coal_36 : decode cX12_coal 36 = .ok (.aload_n 0, 1) := by decide +kernel
theorem dX12_coal_37 : decode cX12_coal 37 = .ok (.getfield 31, 3) := by decide +kernel
theorem dX12_coal_40 : decode cX12_coal 40 = .ok (.iload_n 1, 1) := by decide +kernel
theorem dX12_coal_41 : decode cX12_coal 41 = .ok (.dup2, 1) := by decide +kernel
theorem dX12_coal_42 : decode cX12_coal 42 = .ok (.iaload, 1) := by decide +kernel
theorem dX12_coal_43 : decode cX12_coal 43 = .ok (.iload_n 2, 1) := by decide +kernel
theorem dX12_coal_44 : decode cX12_coal 44 = .ok (.iadd, 1) := by decide +kernel
theorem dX12_coal_45 : decode cX12_coal 45 = .ok (.iastore, 1) := by decide +kernel
theorem dX12_coal_46 : decode cX12_coal 46 = .ok (.aload_n 0, 1) := by decide +kernel
theorem dX12_coal_47 : decode cX12_coal 47 = .ok (.getfield 31, 3) := by decide +kernel
theorem dX12_coal_50 : decode cX12_coal 50 = .ok (.iload_n 1, 1) := by decide +kernel
theorem dX12_coal_51 : decode cX12_coal 51 = .ok (.iaload, 1) := by decide +kernel
theorem dX12_coal_52 : decode cX12_coal 52 = .ok (.ireturn, 1) := by decide +kernel
theorem dX12_year_0 : decode cX12_year 0 = .ok (.aload_n 0, 1) := by decide +kernel
theorem dX12_year_1 : decode cX12_year 1 = .ok (.getfield 191, 3) := by decide +kernel
theorem dX12_year_4 : decode cX12_year 4 = .ok (.bipush 100, 2) := by decide +kernel
theorem dX12_year_6 : decode cX12_year 6 = .ok (.if_icmp .eq 37, 3) := by decide +kernel
theorem dX12_year_9 : decode cX12_year 9 = .ok (.aload_n 0, 1) := by decide +kernel
theorem dX12_year_10 : decode cX12_year 10 = .ok (.getfield 45, 3) := by decide +kernel
theorem dX12_year_13 : decode cX12_year 13 = .ok (.invokestatic 195, 3) := by decide +kernel
theorem dX12_year_16 : decode cX12_year 16 = .ok (.ifCond .gt 27, 3) := by decide +kernel
theorem dX12_year_19 : decode cX12_year 19 = .ok (.aload_n 0, 1) := by decide +kernel
theorem dX12_year_20 : decode cX12_year 20 = .ok (.getfield 48, 3) := by decide +kernel
theorem dX12_year_23 : decode cX12_year 23 = .ok (.invokestatic 195, 3) := by decide +kernel
theorem dX12_year_26 : decode cX12_year 26 = .ok (.aload_n 0, 1) := by decide +kernel
theorem dX12_year_27 : decode cX12_year 27 = .ok (.getfield 199, 3) := by decide +kernel
theorem dX12_year_30 : decode cX12_year 30 = .ok (.if_icmp .gt 13, 3) := by decide +kernel
theorem dX12_year_33 : decode cX12_year 33 = .ok (.aload_n 0, 1) := by decide +kernel
theorem dX12_year_34 : decode cX12_year 34 = .ok (.getfield 51, 3) := by decide +kernel
theorem dX12_year_37 : decode cX12_year 37 = .ok (.invokestatic 195, 3) := by decide +kernel
theorem dX12_year_40 : decode cX12_year 40 = .ok (.ifCond .le 5, 3) := by decide +kernel
theorem dX12_year_43 : decode cX12_year 43 = .ok (.iconst (-1), 1) := by decide +kernel
theorem dX12_year_44 : decode cX12_year 44 = .ok (.ireturn, 1) := by decide +kernel
theorem dX12_year_45 : decode cX12_year 45 = .ok (.iconst 0, 1) := by decide +kernel
theorem dX12_year_46 : decode cX12_year 46 = .ok (.istore_n 1, 1) := by decide +kernel
theorem dX12_year_47 : decode cX12_year 47 = .ok (.iload_n 1, 1) := by decide +kernel
theorem dX12_year_48 : decode cX12_year 48 = .ok (.aload_n 0, 1) := by decide +kernel
theorem dX12_year_49 : decode cX12_year 49 = .ok (.getfield 166, 3) := by decide +kernel
theorem dX12_year_52 : decode cX12_year 52 = .ok (.if_icmp .ge 33, 3) := by decide +kernel
theorem dX12_year_55 : decode cX12_year 55 = .ok (.aload_n 0, 1) := by decide +kernel
theorem dX12_year_56 : decode cX12_year 56 = .ok (.getfield 9, 3) := by decide +kernel
theorem dX12_year_59 : decode cX12_year 59 = .ok (.iload_n 1, 1) := by decide +kernel
theorem dX12_year_60 : decode cX12_year 60 = .ok (.ldc 177, 2) := by decide +kernel
theorem dX12_year_62 : decode cX12_year 62 = .ok (.aload_n 0, 1) := by decide +kernel
theorem dX12_year_63 : decode cX12_year 63 = .ok (.getfield 9, 3) := by decide +kernel
theorem dX12_year_66 : decode cX12_year 66 = .ok (.iload_n 1, 1) := by decide +kernel
theorem dX12_year_67 : decode cX12_year 67 = .ok (.iaload, 1) := by decide +kernel
theorem dX12_year_68 : decode cX12_year 68 = .ok (.aload_n 0, 1) := by decide +kernel
theorem dX12_year_69 : decode cX12_year 69 = .ok (.getfield 13, 3) := by decide +kernel
theorem dX12_year_72 : decode cX12_year 72 = .ok (.iload_n 1, 1) := by decide +kernel
theorem dX12_year_73 : decode cX12_year 73 = .ok (.iaload, 1) := by decide +kernel
theorem dX12_year_74 : decode cX12_year 74 = .ok (.iadd, 1) := by decide +kernel
theorem dX12_year_75 : decode cX12_year 75 = .ok (.invokestatic 188, 3) := by decide +kernel
theorem dX12_year_78 : decode cX12_year 78 = .ok (.iastore, 1) := by decide +kernel
theorem dX12_year_79 : decode cX12_year 79 = .ok (.iinc 1 1, 3) := by decide +kernel
theorem dX12_year_82 : decode cX12_year 82 = .ok (.goto (-35), 3) := by decide +kernel
theorem dX12_year_85 : decode cX12_year 85 = .ok (.aload_n 0, 1) := by decide +kernel
theorem dX12_year_86 : decode cX12_year 86 = .ok (.dup, 1) := by decide +kernel
theorem dX12_year_87 : decode cX12_year 87 = .ok (.getfield 191, 3) := by decide +kernel
theorem dX12_year_90 : decode cX12_year 90 = .ok (.iconst 1, 1) := by decide +kernel
theorem dX12_year_91 : decode cX12_year 91 = .ok (.iadd, 1) := by decide +kernel
theorem dX12_year_92 : decode cX12_year 92 = .ok (.putfield 191, 3) := by decide +kernel
theorem dX12_year_95 : decode cX12_year 95 = .ok (.aload_n 0, 1) := by decide +kernel
theorem dX12_year_96 : decode cX12_year 96 = .ok (.getfield 191, 3) := by decide +kernel
theorem dX12_year_99 : decode cX12_year 99 = .ok (.ireturn, 1) := by decide +kernel
theorem dX12_water_0 : decode cX12_water 0 = .ok (.iload_n 1, 1) := by decide +kernel
theorem dX12_water_1 : decode cX12_water 1 = .ok (.iconst 0, 1) := by decide +kernel
theorem dX12_water_2 : decode cX12_water 2 = .ok (.bipush 9, 2) := by decide +kernel
theorem dX12_water_4 : decode cX12_water 4 = .ok (.invokestatic 169, 3) := by decide +kernel
theorem dX12_water_7 : decode cX12_water 7 = .ok (.ifCond .ne 5, 3) := by decide +kernel
theorem dX12_water_10 : decode cX12_water 10 = .ok (.iconst 0, 1) := by decide +kernel
theorem dX12_water_11 : decode cX12_water 11 = .ok (.ireturn, 1) := by decide +kernel
theorem dX12_water_12 : decode cX12_water 12 = .ok (.aload_n 0, 1) := by decide +kernel
theorem dX12_water_13 : decode cX12_water 13 = .ok (.iload_n 1, 1) := by decide +kernel
theorem dX12_water_14 : decode cX12_water 14 = .ok (.putfield 58, 3) := by decide +kernel
theorem dX12_water_17 : decode cX12_water 17 = .ok (.iconst 1, 1) := by decide +kernel
theorem dX12_water_18 : decode cX12_water 18 = .ok (.ireturn, 1) := by decide +kernel
theorem dX12_gap_0 : decode cX12_gap 0 = .ok (.iload_n 1, 1) := by decide +kernel
theorem dX12_gap_1 : decode cX12_gap 1 = .ok (.iconst 1, 1) := by decide +kernel
theorem dX12_gap_2 : decode cX12_gap 2 = .ok (.bipush 30, 2) := by decide +kernel
theorem dX12_gap_4 : decode cX12_gap 4 = .ok (.invokestatic 169, 3) := by decide +kernel
theorem dX12_gap_7 : decode cX12_gap 7 = .ok (.ifCond .ne 5, 3) := by decide +kernel
theorem dX12_gap_10 : decode cX12_gap 10 = .ok (.iconst 0, 1) := by decide +kernel
theorem dX12_gap_11 : decode cX12_gap 11 = .ok (.ireturn, 1) := by decide +kernel
theorem dX12_gap_12 : decode cX12_gap 12 = .ok (.aload_n 0, 1) := by decide +kernel
theorem dX12_gap_13 : decode cX12_gap 13 = .ok (.iload_n 1, 1) := by decide +kernel
theorem dX12_gap_14 : decode cX12_gap 14 = .ok (.putfield 61, 3) := by decide +kernel
theorem dX12_gap_17 : decode cX12_gap 17 = .ok (.iconst 1, 1) := by decide +kernel
theorem dX12_gap_18 : decode cX12_gap 18 = .ok (.ireturn, 1) := by decide +kernel
theorem dX12_charge_0 : decode cX12_charge 0 = .ok (.iload_n 1, 1) := by decide +kernel
theorem dX12_charge_1 : decode cX12_charge 1 = .ok (.iconst 0, 1) := by decide +kernel
theorem dX12_charge_2 : decode cX12_charge 2 = .ok (.sipush 5000, 3) := by decide +kernel
theorem dX12_charge_5 : decode cX12_charge 5 = .ok (.invokestatic 169, 3) := by decide +kernel
theorem dX12_charge_8 : decode cX12_charge 8 = .ok (.ifCond .eq 42, 3) := by decide +kernel
theorem dX12_charge_11 : decode cX12_charge 11 = .ok (.iload_n 2, 1) := by decide +kernel
theorem dX12_charge_12 : decode cX12_charge 12 = .ok (.iconst 0, 1) := by decide +kernel
theorem dX12_charge_13 : decode cX12_charge 13 = .ok (.sipush 5000, 3) := by decide +kernel
theorem dX12_charge_16 : decode cX12_charge 16 = .ok (.invokestatic 169, 3) := by decide +kernel
theorem dX12_charge_19 : decode cX12_charge 19 = .ok (.ifCond .eq 31, 3) := by decide +kernel
theorem dX12_charge_22 : decode cX12_charge 22 = .ok (.iload_n 1, 1) := by decide +kernel
theorem dX12_charge_23 : decode cX12_charge 23 = .ok (.iload_n 2, 1) := by decide +kernel
theorem dX12_charge_24 : decode cX12_charge 24 = .ok (.iadd, 1) := by decide +kernel
theorem dX12_charge_25 : decode cX12_charge 25 = .ok (.ifCond .eq 25, 3) := by decide +kernel
theorem dX12_charge_28 : decode cX12_charge 28 = .ok (.iload_n 1, 1) := by decide +kernel
theorem dX12_charge_29 : decode cX12_charge 29 = .ok (.aload_n 0, 1) := by decide +kernel
theorem dX12_charge_30 : decode cX12_charge 30 = .ok (.getfield 28, 3) := by decide +kernel
theorem dX12_charge_33 : decode cX12_charge 33 = .ok (.invokestatic 195, 3) := by decide +kernel
theorem dX12_charge_36 : decode cX12_charge 36 = .ok (.if_icmp .gt 14, 3) := by decide +kernel
theorem dX12_charge_39 : decode cX12_charge 39 = .ok (.iload_n 2, 1) := by decide +kernel
theorem dX12_charge_40 : decode cX12_charge 40 = .ok (.aload_n 0, 1) := by decide +kernel
theorem dX12_charge_41 : decode cX12_charge 41 = .ok (.getfield 31, 3) := by decide +kernel
theorem dX12_charge_44 : decode cX12_charge 44 = .ok (.invokestatic 195, 3) := by decide +kernel
theorem dX12_charge_47 : decode cX12_charge 47 = .ok (.if_icmp .le 5, 3) := by decide +kernel
theorem dX12_charge_50 : decode cX12_charge 50 = .ok (.iconst 0, 1) := by decide +kernel
theorem dX12_charge_51 : decode cX12_charge 51 = .ok (.ireturn, 1) := by decide +kernel
theorem dX12_charge_52 : decode cX12_charge 52 = .ok (.aload_n 0, 1) := by decide +kernel
theorem dX12_charge_53 : decode cX12_charge 53 = .ok (.iload_n 1, 1) := by decide +kernel
theorem dX12_charge_54 : decode cX12_charge 54 = .ok (.aload_n 0, 1) := by decide +kernel
theorem dX12_charge_55 : decode cX12_charge 55 = .ok (.getfield 28, 3) := by decide +kernel
theorem dX12_charge_58 : decode cX12_charge 58 = .ok (.invokevirtual 202, 3) := by decide +kernel
theorem dX12_charge_61 : decode cX12_charge 61 = .ok (.iconst 0, 1) := by decide +kernel
theorem dX12_charge_62 : decode cX12_charge 62 = .ok (.istore_n 3, 1) := by decide +kernel
theorem dX12_charge_63 : decode cX12_charge 63 = .ok (.iload_n 3, 1) := by decide +kernel
theorem dX12_charge_64 : decode cX12_charge 64 = .ok (.bipush 12, 2) := by decide +kernel
theorem dX12_charge_66 : decode cX12_charge 66 = .ok (.if_icmp .ge 39, 3) := by decide +kernel
theorem dX12_charge_69 : decode cX12_charge 69 = .ok (.aload_n 0, 1) := by decide +kernel
theorem dX12_charge_70 : decode cX12_charge 70 = .ok (.getfield 28, 3) := by decide +kernel
theorem dX12_charge_73 : decode cX12_charge 73 = .ok (.iload_n 3, 1) := by decide +kernel
theorem dX12_charge_74 : decode cX12_charge 74 = .ok (.dup2, 1) := by decide +kernel
theorem dX12_charge_75 : decode cX12_charge 75 = .ok (.iaload, 1) := by decide +kernel
theorem dX12_charge_76 : decode cX12_charge 76 = .ok (.aload_n 0, 1) := by decide +kernel
theorem dX12_charge_77 : decode cX12_charge 77 = .ok (.getfield 38, 3) := by decide +kernel
theorem dX12_charge_80 : decode cX12_charge 80 = .ok (.iload_n 3, 1) := by decide +kernel
theorem dX12_charge_81 : decode cX12_charge 81 = .ok (.iaload, 1) := by decide +kernel
theorem dX12_charge_82 : decode cX12_charge 82 = .ok (.isub, 1) := by decide +kernel
theorem dX12_charge_83 : decode cX12_charge 83 = .ok (.iastore, 1) := by decide +kernel
theorem dX12_charge_84 : decode cX12_charge 84 = .ok (.aload_n 0, 1) := by decide +kernel
theorem dX12_charge_85 : decode cX12_charge 85 = .ok (.getfield 45, 3) := by decide +kernel
theorem dX12_charge_88 : decode cX12_charge 88 = .ok (.iload_n 3, 1) := by decide +kernel
theorem dX12_charge_89 : decode cX12_charge 89 = .ok (.dup2, 1) := by decide +kernel
theorem dX12_charge_90 : decode cX12_charge 90 = .ok (.iaload, 1) := by decide +kernel
theorem dX12_charge_91 : decode cX12_charge 91 = .ok (.aload_n 0, 1) := by decide +kernel
theorem dX12_charge_92 : decode cX12_charge 92 = .ok (.getfield 38, 3) := by decide +kernel
theorem dX12_charge_95 : decode cX12_charge 95 = .ok (.iload_n 3, 1) := by decide +kernel
theorem dX12_charge_96 : decode cX12_charge 96 = .ok (.iaload, 1) := by decide +kernel
theorem dX12_charge_97 : decode cX12_charge 97 = .ok (.iadd, 1) := by decide +kernel
theorem dX12_charge_98 : decode cX12_charge 98 = .ok (.iastore, 1) := by decide +kernel
theorem dX12_charge_99 : decode cX12_charge 99 = .ok (.iinc 3 1, 3) := by decide +kernel
theorem dX12_charge_102 : decode cX12_charge 102 = .ok (.goto (-39), 3) := by decide +kernel
theorem dX12_charge_105 : decode cX12_charge 105 = .ok (.aload_n 0, 1) := by decide +kernel
theorem dX12_charge_106 : decode cX12_charge 106 = .ok (.iload_n 2, 1) := by decide +kernel
theorem dX12_charge_107 : decode cX12_charge 107 = .ok (.aload_n 0, 1) := by decide +kernel
theorem dX12_charge_108 : decode cX12_charge 108 = .ok (.getfield 31, 3) := by decide +kernel
theorem dX12_charge_111 : decode cX12_charge 111 = .ok (.invokevirtual 202, 3) := by decide +kernel
theorem dX12_charge_114 : decode cX12_charge 114 = .ok (.iconst 0, 1) := by decide +kernel
theorem dX12_charge_115 : decode cX12_charge 115 = .ok (.istore_n 3, 1) := by decide +kernel
theorem dX12_charge_116 : decode cX12_charge 116 = .ok (.iload_n 3, 1) := by decide +kernel
theorem dX12_charge_117 : decode cX12_charge 117 = .ok (.bipush 8, 2) := by decide +kernel
theorem dX12_charge_119 : decode cX12_charge 119 = .ok (.if_icmp .ge 39, 3) := by decide +kernel
theorem dX12_charge_122 : decode cX12_charge 122 = .ok (.aload_n 0, 1) := by decide +kernel
theorem dX12_charge_123 : decode cX12_charge 123 = .ok (.getfield 31, 3) := by decide +kernel
theorem dX12_charge_126 : decode cX12_charge 126 = .ok (.iload_n 3, 1) := by decide +kernel
theorem dX12_charge_127 : decode cX12_charge 127 = .ok (.dup2, 1) := by decide +kernel
theorem dX12_charge_128 : decode cX12_charge 128 = .ok (.iaload, 1) := by decide +kernel
theorem dX12_charge_129 : decode cX12_charge 129 = .ok (.aload_n 0, 1) := by decide +kernel
theorem dX12_charge_130 : decode cX12_charge 130 = .ok (.getfield 38, 3) := by decide +kernel
theorem dX12_charge_133 : decode cX12_charge 133 = .ok (.iload_n 3, 1) := by decide +kernel
theorem dX12_charge_134 : decode cX12_charge 134 = .ok (.iaload, 1) := by decide +kernel
theorem dX12_charge_135 : decode cX12_charge 135 = .ok (.isub, 1) := by decide +kernel
theorem dX12_charge_136 : decode cX12_charge 136 = .ok (.iastore, 1) := by decide +kernel
theorem dX12_charge_137 : decode cX12_charge 137 = .ok (.aload_n 0, 1) := by decide +kernel
theorem dX12_charge_138 : decode cX12_charge 138 = .ok (.getfield 48, 3) := by decide +kernel
theorem dX12_charge_141 : decode cX12_charge 141 = .ok (.iload_n 3, 1) := by decide +kernel
theorem dX12_charge_142 : decode cX12_charge 142 = .ok (.dup2, 1) := by decide +kernel
theorem dX12_charge_143 : decode cX12_charge 143 = .ok (.iaload, 1) := by decide +kernel
theorem dX12_charge_144 : decode cX12_charge 144 = .ok (.aload_n 0, 1) := by decide +kernel
theorem dX12_charge_145 : decode cX12_charge 145 = .ok (.getfield 38, 3) := by decide +kernel
theorem dX12_charge_148 : decode cX12_charge 148 = .ok (.iload_n 3, 1) := by decide +kernel
theorem dX12_charge_149 : decode cX12_charge 149 = .ok (.iaload, 1) := by decide +kernel
theorem dX12_charge_150 : decode cX12_charge 150 = .ok (.iadd, 1) := by decide +kernel
theorem dX12_charge_151 : decode cX12_charge 151 = .ok (.iastore, 1) := by decide +kernel
theorem dX12_charge_152 : decode cX12_charge 152 = .ok (.iinc 3 1, 3) := by decide +kernel
theorem dX12_charge_155 : decode cX12_charge 155 = .ok (.goto (-39), 3) := by decide +kernel
theorem dX12_charge_158 : decode cX12_charge 158 = .ok (.iconst 1, 1) := by decide +kernel
theorem dX12_charge_159 : decode cX12_charge 159 = .ok (.ireturn, 1) := by decide +kernel
theorem dX12_minute_0 : decode cX12_minute 0 = .ok (.aload_n 0, 1) := by decide +kernel
theorem dX12_minute_1 : decode cX12_minute 1 = .ok (.getfield 206, 3) := by decide +kernel
theorem dX12_minute_4 : decode cX12_minute 4 = .ok (.aload_n 0, 1) := by decide +kernel
theorem dX12_minute_5 : decode cX12_minute 5 = .ok (.getfield 61, 3) := by decide +kernel
theorem dX12_minute_8 : decode cX12_minute 8 = .ok (.irem, 1) := by decide +kernel
theorem dX12_minute_9 : decode cX12_minute 9 = .ok (.ifCond .ne 11, 3) := by decide +kernel
theorem dX12_minute_12 : decode cX12_minute 12 = .ok (.aload_n 0, 1) := by decide +kernel
theorem dX12_minute_13 : decode cX12_minute 13 = .ok (.aload_n 0, 1) := by decide +kernel
theorem dX12_minute_14 : decode cX12_minute 14 = .ok (.getfield 209, 3) := by decide +kernel
theorem dX12_minute_17 : decode cX12_minute 17 = .ok (.putfield 212, 3) := by decide +kernel
theorem dX12_minute_20 : decode cX12_minute 20 = .ok (.iconst 0, 1) := by decide +kernel
theorem dX12_minute_21 : decode cX12_minute 21 = .ok (.istore_n 1, 1) := by decide +kernel
theorem dX12_minute_22 : decode cX12_minute 22 = .ok (.iload_n 1, 1) := by decide +kernel
theorem dX12_minute_23 : decode cX12_minute 23 = .ok (.aload_n 0, 1) := by decide +kernel
theorem dX12_minute_24 : decode cX12_minute 24 = .ok (.getfield 215, 3) := by decide +kernel
theorem dX12_minute_27 : decode cX12_minute 27 = .ok (.if_icmp .ge 30, 3) := by decide +kernel
theorem dX12_minute_30 : decode cX12_minute 30 = .ok (.aload_n 0, 1) := by decide +kernel
theorem dX12_minute_31 : decode cX12_minute 31 = .ok (.iload_n 1, 1) := by decide +kernel
theorem dX12_minute_32 : decode cX12_minute 32 = .ok (.invokevirtual 218, 3) := by decide +kernel
theorem dX12_minute_35 : decode cX12_minute 35 = .ok (.ifCond .eq 16, 3) := by decide +kernel
theorem dX12_minute_38 : decode cX12_minute 38 = .ok (.aload_n 0, 1) := by decide +kernel
theorem dX12_minute_39 : decode cX12_minute 39 = .ok (.aload_n 0, 1) := by decide +kernel
theorem dX12_minute_40 : decode cX12_minute 40 = .ok (.getfield 76, 3) := by decide +kernel
theorem dX12_minute_43 : decode cX12_minute 43 = .ok (.iload_n 1, 1) := by decide +kernel
theorem dX12_minute_44 : decode cX12_minute 44 = .ok (.iaload, 1) := by decide +kernel
theorem dX12_minute_45 : decode cX12_minute 45 = .ok (.putfield 221, 3) := by decide +kernel
theorem dX12_minute_48 : decode cX12_minute 48 = .ok (.goto 9, 3) := by decide +kernel
theorem dX12_minute_51 : decode cX12_minute 51 = .ok (.iinc 1 1, 3) := by decide +kernel
theorem dX12_minute_54 : decode cX12_minute 54 = .ok (.goto (-32), 3) := by decide +kernel
theorem dX12_minute_57 : decode cX12_minute 57 = .ok (.aload_n 0, 1) := by decide +kernel
theorem dX12_minute_58 : decode cX12_minute 58 = .ok (.getfield 221, 3) := by decide +kernel
theorem dX12_minute_61 : decode cX12_minute 61 = .ok (.aload_n 0, 1) := by decide +kernel
theorem dX12_minute_62 : decode cX12_minute 62 = .ok (.getfield 58, 3) := by decide +kernel
theorem dX12_minute_65 : decode cX12_minute 65 = .ok (.invokestatic 188, 3) := by decide +kernel
theorem dX12_minute_68 : decode cX12_minute 68 = .ok (.aload_n 0, 1) := by decide +kernel
theorem dX12_minute_69 : decode cX12_minute 69 = .ok (.getfield 48, 3) := by decide +kernel
theorem dX12_minute_72 : decode cX12_minute 72 = .ok (.invokestatic 195, 3) := by decide +kernel
theorem dX12_minute_75 : decode cX12_minute 75 = .ok (.aload_n 0, 1) := by decide +kernel
theorem dX12_minute_76 : decode cX12_minute 76 = .ok (.getfield 199, 3) := by decide +kernel
theorem dX12_minute_79 : decode cX12_minute 79 = .ok (.isub, 1) := by decide +kernel
theorem dX12_minute_80 : decode cX12_minute 80 = .ok (.invokestatic 188, 3) := by decide +kernel
theorem dX12_minute_83 : decode cX12_minute 83 = .ok (.istore_n 1, 1) := by decide +kernel
theorem dX12_minute_84 : decode cX12_minute 84 = .ok (.aload_n 0, 1) := by decide +kernel
theorem dX12_minute_85 : decode cX12_minute 85 = .ok (.dup, 1) := by decide +kernel
theorem dX12_minute_86 : decode cX12_minute 86 = .ok (.getfield 199, 3) := by decide +kernel
theorem dX12_minute_89 : decode cX12_minute 89 = .ok (.iload_n 1, 1) := by decide +kernel
theorem dX12_minute_90 : decode cX12_minute 90 = .ok (.iadd, 1) := by decide +kernel
theorem dX12_minute_91 : decode cX12_minute 91 = .ok (.putfield 199, 3) := by decide +kernel
theorem dX12_minute_94 : decode cX12_minute 94 = .ok (.aload_n 0, 1) := by decide +kernel
theorem dX12_minute_95 : decode cX12_minute 95 = .ok (.dup, 1) := by decide +kernel
theorem dX12_minute_96 : decode cX12_minute 96 = .ok (.getfield 209, 3) := by decide +kernel
theorem dX12_minute_99 : decode cX12_minute 99 = .ok (.bipush 12, 2) := by decide +kernel
theorem dX12_minute_101 : decode cX12_minute 101 = .ok (.iload_n 1, 1) := by decide +kernel
theorem dX12_minute_102 : decode cX12_minute 102 = .ok (.imul, 1) := by decide +kernel
theorem dX12_minute_103 : decode cX12_minute 103 = .ok (.iadd, 1) := by decide +kernel
theorem dX12_minute_104 : decode cX12_minute 104 = .ok (.putfield 209, 3) := by decide +kernel
theorem dX12_minute_107 : decode cX12_minute 107 = .ok (.aload_n 0, 1) := by decide +kernel
theorem dX12_minute_108 : decode cX12_minute 108 = .ok (.iconst 0, 1) := by decide +kernel
theorem dX12_minute_109 : decode cX12_minute 109 = .ok (.aload_n 0, 1) := by decide +kernel
theorem dX12_minute_110 : decode cX12_minute 110 = .ok (.getfield 209, 3) := by decide +kernel
theorem dX12_minute_113 : decode cX12_minute 113 = .ok (.aload_n 0, 1) := by decide +kernel
theorem dX12_minute_114 : decode cX12_minute 114 = .ok (.getfield 209, 3) := by decide +kernel
theorem dX12_minute_117 : decode cX12_minute 117 = .ok (.bipush 40, 2) := by decide +kernel
theorem dX12_minute_119 : decode cX12_minute 119 = .ok (.idiv, 1) := by decide +kernel
theorem dX12_minute_120 : decode cX12_minute 120 = .ok (.isub, 1) := by decide +kernel
theorem dX12_minute_121 : decode cX12_minute 121 = .ok (.iconst 2, 1) := by decide +kernel
theorem dX12_minute_122 : decode cX12_minute 122 = .ok (.isub, 1) := by decide +kernel
theorem dX12_minute_123 : decode cX12_minute 123 = .ok (.invokestatic 182, 3) := by decide +kernel
theorem dX12_minute_126 : decode cX12_minute 126 = .ok (.putfield 209, 3) := by decide +kernel
theorem dX12_minute_129 : decode cX12_minute 129 = .ok (.aload_n 0, 1) := by decide +kernel
theorem dX12_minute_130 : decode cX12_minute 130 = .ok (.getfield 209, 3) := by decide +kernel
theorem dX12_minute_133 : decode cX12_minute 133 = .ok (.sipush 1000, 3) := by decide +kernel
theorem dX12_minute_136 : decode cX12_minute 136 = .ok (.if_icmp .lt 80, 3) := by decide +kernel
theorem dX12_minute_139 : decode cX12_minute 139 = .ok (.aload_n 0, 1) := by decide +kernel
theorem dX12_minute_140 : decode cX12_minute 140 = .ok (.getfield 209, 3) := by decide +kernel
theorem dX12_minute_143 : decode cX12_minute 143 = .ok (.sipush 1300, 3) := by decide +kernel
theorem dX12_minute_146 : decode cX12_minute 146 = .ok (.if_icmp .gt 70, 3) := by decide +kernel
theorem dX12_minute_149 : decode cX12_minute 149 = .ok (.iload_n 1, 1) := by decide +kernel
theorem dX12_minute_150 : decode cX12_minute 150 = .ok (.ifCond .le 66, 3) := by decide +kernel
theorem dX12_minute_153 : decode cX12_minute 153 = .ok (.aload_n 0, 1) := by decide +kernel
theorem dX12_minute_154 : decode cX12_minute 154 = .ok (.iconst 3, 1) := by decide +kernel
theorem dX12_minute_155 : decode cX12_minute 155 = .ok (.aload_n 0, 1) := by decide +kernel
theorem dX12_minute_156 : decode cX12_minute 156 = .ok (.getfield 45, 3) := by decide +kernel
theorem dX12_minute_159 : decode cX12_minute 159 = .ok (.invokestatic 195, 3) := by decide +kernel
theorem dX12_minute_162 : decode cX12_minute 162 = .ok (.invokestatic 188, 3) := by decide +kernel
theorem dX12_minute_165 : decode cX12_minute 165 = .ok (.aload_n 0, 1) := by decide +kernel
theorem dX12_minute_166 : decode cX12_minute 166 = .ok (.getfield 45, 3) := by decide +kernel
theorem dX12_minute_169 : decode cX12_minute 169 = .ok (.invokevirtual 202, 3) := by decide +kernel
theorem dX12_minute_172 : decode cX12_minute 172 = .ok (.iconst 0, 1) := by decide +kernel
theorem dX12_minute_173 : decode cX12_minute 173 = .ok (.istore_n 2, 1) := by decide +kernel
theorem dX12_minute_174 : decode cX12_minute 174 = .ok (.iload_n 2, 1) := by decide +kernel
theorem dX12_minute_175 : decode cX12_minute 175 = .ok (.bipush 12, 2) := by decide +kernel
theorem dX12_minute_177 : decode cX12_minute 177 = .ok (.if_icmp .ge 39, 3) := by decide +kernel
theorem dX12_minute_180 : decode cX12_minute 180 = .ok (.aload_n 0, 1) := by decide +kernel
theorem dX12_minute_181 : decode cX12_minute 181 = .ok (.getfield 45, 3) := by decide +kernel
theorem dX12_minute_184 : decode cX12_minute 184 = .ok (.iload_n 2, 1) := by decide +kernel
theorem dX12_minute_185 : decode cX12_minute 185 = .ok (.dup2, 1) := by decide +kernel
theorem dX12_minute_186 : decode cX12_minute 186 = .ok (.iaload, 1) := by decide +kernel
theorem dX12_minute_187 : decode cX12_minute 187 = .ok (.aload_n 0, 1) := by decide +kernel
theorem dX12_minute_188 : decode cX12_minute 188 = .ok (.getfield 38, 3) := by decide +kernel
theorem dX12_minute_191 : decode cX12_minute 191 = .ok (.iload_n 2, 1) := by decide +kernel
theorem dX12_minute_192 : decode cX12_minute 192 = .ok (.iaload, 1) := by decide +kernel
theorem dX12_minute_193 : decode cX12_minute 193 = .ok (.isub, 1) := by decide +kernel
theorem dX12_minute_194 : decode cX12_minute 194 = .ok (.iastore, 1) := by decide +kernel
theorem dX12_minute_195 : decode cX12_minute 195 = .ok (.aload_n 0, 1) := by decide +kernel
theorem dX12_minute_196 : decode cX12_minute 196 = .ok (.getfield 51, 3) := by decide +kernel
theorem dX12_minute_199 : decode cX12_minute 199 = .ok (.iload_n 2, 1) := by decide +kernel
theorem dX12_minute_200 : decode cX12_minute 200 = .ok (.dup2, 1) := by decide +kernel
theorem dX12_minute_201 : decode cX12_minute 201 = .ok (.iaload, 1) := by decide +kernel
theorem dX12_minute_202 : decode cX12_minute 202 = .ok (.aload_n 0, 1) := by decide +kernel
theorem dX12_minute_203 : decode cX12_minute 203 = .ok (.getfield 38, 3) := by decide +kernel
theorem dX12_minute_206 : decode cX12_minute 206 = .ok (.iload_n 2, 1) := by decide +kernel
theorem dX12_minute_207 : decode cX12_minute 207 = .ok (.iaload, 1) := by decide +kernel
theorem dX12_minute_208 : decode cX12_minute 208 = .ok (.iadd, 1) := by decide +kernel
theorem dX12_minute_209 : decode cX12_minute 209 = .ok (.iastore, 1) := by decide +kernel
theorem dX12_minute_210 : decode cX12_minute 210 = .ok (.iinc 2 1, 3) := by decide +kernel
theorem dX12_minute_213 : decode cX12_minute 213 = .ok (.goto (-39), 3) := by decide +kernel
theorem dX12_minute_216 : decode cX12_minute 216 = .ok (.aload_n 0, 1) := by decide +kernel
theorem dX12_minute_217 : decode cX12_minute 217 = .ok (.getfield 209, 3) := by decide +kernel
theorem dX12_minute_220 : decode cX12_minute 220 = .ok (.sipush 1300, 3) := by decide +kernel
theorem dX12_minute_223 : decode cX12_minute 223 = .ok (.if_icmp .le 35, 3) := by decide +kernel
theorem dX12_minute_226 : decode cX12_minute 226 = .ok (.aload_n 0, 1) := by decide +kernel
theorem dX12_minute_227 : decode cX12_minute 227 = .ok (.aload_n 0, 1) := by decide +kernel
theorem dX12_minute_228 : decode cX12_minute 228 = .ok (.getfield 224, 3) := by decide +kernel
theorem dX12_minute_231 : decode cX12_minute 231 = .ok (.ifCond .ne 10, 3) := by decide +kernel
theorem dX12_minute_234 : decode cX12_minute 234 = .ok (.aload_n 0, 1) := by decide +kernel
theorem dX12_minute_235 : decode cX12_minute 235 = .ok (.getfield 206, 3) := by decide +kernel
theorem dX12_minute_238 : decode cX12_minute 238 = .ok (.goto 7, 3) := by decide +kernel
theorem dX12_minute_241 : decode cX12_minute 241 = .ok (.aload_n 0, 1) := by decide +kernel
theorem dX12_minute_242 : decode cX12_minute 242 = .ok (.getfield 54, 3) := by decide +kernel
theorem dX12_minute_245 : decode cX12_minute 245 = .ok (.putfield 54, 3) := by decide +kernel
theorem dX12_minute_248 : decode cX12_minute 248 = .ok (.aload_n 0, 1) := by decide +kernel
theorem dX12_minute_249 : decode cX12_minute 249 = .ok (.dup, 1) := by decide +kernel
theorem dX12_minute_250 : decode cX12_minute 250 = .ok (.getfield 224, 3) := by decide +kernel
theorem dX12_minute_253 : decode cX12_minute 253 = .ok (.iconst 1, 1) := by decide +kernel
theorem dX12_minute_254 : decode cX12_minute 254 = .ok (.iadd, 1) := by decide +kernel
theorem dX12_minute_255 : decode cX12_minute 255 = .ok (.putfield 224, 3) := by decide +kernel
theorem dX12_minute_258 : decode cX12_minute 258 = .ok (.aload_n 0, 1) := by decide +kernel
theorem dX12_minute_259 : decode cX12_minute 259 = .ok (.dup, 1) := by decide +kernel
theorem dX12_minute_260 : decode cX12_minute 260 = .ok (.getfield 206, 3) := by decide +kernel
theorem dX12_minute_263 : decode cX12_minute 263 = .ok (.iconst 1, 1) := by decide +kernel
theorem dX12_minute_264 : decode cX12_minute 264 = .ok (.iadd, 1) := by decide +kernel
theorem dX12_minute_265 : decode cX12_minute 265 = .ok (.putfield 206, 3) := by decide +kernel
theorem dX12_minute_268 : decode cX12_minute 268 = .ok (.return_, 1) := by decide +kernel
theorem dX12_blow_0 : decode cX12_blow 0 = .ok (.iload_n 1, 1) := by decide +kernel
theorem dX12_blow_1 : decode cX12_blow 1 = .ok (.iconst 0, 1) := by decide +kernel
theorem dX12_blow_2 : decode cX12_blow 2 = .ok (.sipush 2000, 3) := by decide +kernel
theorem dX12_blow_5 : decode cX12_blow 5 = .ok (.invokestatic 169, 3) := by decide +kernel
theorem dX12_blow_8 : decode cX12_blow 8 = .ok (.ifCond .eq 15, 3) := by decide +kernel
theorem dX12_blow_11 : decode cX12_blow 11 = .ok (.aload_n 0, 1) := by decide +kernel
theorem dX12_blow_12 : decode cX12_blow 12 = .ok (.getfield 206, 3) := by decide +kernel
theorem dX12_blow_15 : decode cX12_blow 15 = .ok (.iload_n 1, 1) := by decide +kernel
theorem dX12_blow_16 : decode cX12_blow 16 = .ok (.iadd, 1) := by decide +kernel
theorem dX12_blow_17 : decode cX12_blow 17 = .ok (.sipush 20000, 3) := by decide +kernel
theorem dX12_blow_20 : decode cX12_blow 20 = .ok (.if_icmp .le 5, 3) := by decide +kernel
theorem dX12_blow_23 : decode cX12_blow 23 = .ok (.iconst (-1), 1) := by decide +kernel
theorem dX12_blow_24 : decode cX12_blow 24 = .ok (.ireturn, 1) := by decide +kernel
theorem dX12_blow_25 : decode cX12_blow 25 = .ok (.iconst 0, 1) := by decide +kernel
theorem dX12_blow_26 : decode cX12_blow 26 = .ok (.istore_n 2, 1) := by decide +kernel
theorem dX12_blow_27 : decode cX12_blow 27 = .ok (.iload_n 2, 1) := by decide +kernel
theorem dX12_blow_28 : decode cX12_blow 28 = .ok (.iload_n 1, 1) := by decide +kernel
theorem dX12_blow_29 : decode cX12_blow 29 = .ok (.if_icmp .ge 13, 3) := by decide +kernel
theorem dX12_blow_32 : decode cX12_blow 32 = .ok (.aload_n 0, 1) := by decide +kernel
theorem dX12_blow_33 : decode cX12_blow 33 = .ok (.invokevirtual 227, 3) := by decide +kernel
theorem dX12_blow_36 : decode cX12_blow 36 = .ok (.iinc 2 1, 3) := by decide +kernel
theorem dX12_blow_39 : decode cX12_blow 39 = .ok (.goto (-12), 3) := by decide +kernel
theorem dX12_blow_42 : decode cX12_blow 42 = .ok (.aload_n 0, 1) := by decide +kernel
theorem dX12_blow_43 : decode cX12_blow 43 = .ok (.getfield 209, 3) := by decide +kernel
theorem dX12_blow_46 : decode cX12_blow 46 = .ok (.ireturn, 1) := by decide +kernel
theorem dX12_furnace_0 : decode cX12_furnace 0 = .ok (.iload_n 1, 1) := by decide +kernel
theorem dX12_furnace_1 : decode cX12_furnace 1 = .ok (.tableswitch 110 0 8 #[51, 56, 61, 66, 74, 87, 95, 100, 105], 51) := by decide +kernel
theorem dX12_furnace_52 : decode cX12_furnace 52 = .ok (.aload_n 0, 1) := by decide +kernel
theorem dX12_furnace_53 : decode cX12_furnace 53 = .ok (.getfield 209, 3) := by decide +kernel
theorem dX12_furnace_56 : decode cX12_furnace 56 = .ok (.ireturn, 1) := by decide +kernel
theorem dX12_furnace_57 : decode cX12_furnace 57 = .ok (.aload_n 0, 1) := by decide +kernel
theorem dX12_furnace_58 : decode cX12_furnace 58 = .ok (.getfield 212, 3) := by decide +kernel
theorem dX12_furnace_61 : decode cX12_furnace 61 = .ok (.ireturn, 1) := by decide +kernel
theorem dX12_furnace_62 : decode cX12_furnace 62 = .ok (.aload_n 0, 1) := by decide +kernel
theorem dX12_furnace_63 : decode cX12_furnace 63 = .ok (.getfield 221, 3) := by decide +kernel
theorem dX12_furnace_66 : decode cX12_furnace 66 = .ok (.ireturn, 1) := by decide +kernel
theorem dX12_furnace_67 : decode cX12_furnace 67 = .ok (.aload_n 0, 1) := by decide +kernel
theorem dX12_furnace_68 : decode cX12_furnace 68 = .ok (.getfield 45, 3) := by decide +kernel
theorem dX12_furnace_71 : decode cX12_furnace 71 = .ok (.invokestatic 195, 3) := by decide +kernel
theorem dX12_furnace_74 : decode cX12_furnace 74 = .ok (.ireturn, 1) := by decide +kernel
theorem dX12_furnace_75 : decode cX12_furnace 75 = .ok (.aload_n 0, 1) := by decide +kernel
theorem dX12_furnace_76 : decode cX12_furnace 76 = .ok (.getfield 48, 3) := by decide +kernel
theorem dX12_furnace_79 : decode cX12_furnace 79 = .ok (.invokestatic 195, 3) := by decide +kernel
theorem dX12_furnace_82 : decode cX12_furnace 82 = .ok (.aload_n 0, 1) := by decide +kernel
theorem dX12_furnace_83 : decode cX12_furnace 83 = .ok (.getfield 199, 3) := by decide +kernel
theorem dX12_furnace_86 : decode cX12_furnace 86 = .ok (.isub, 1) := by decide +kernel
theorem dX12_furnace_87 : decode cX12_furnace 87 = .ok (.ireturn, 1) := by decide +kernel
theorem dX12_furnace_88 : decode cX12_furnace 88 = .ok (.aload_n 0, 1) := by decide +kernel
theorem dX12_furnace_89 : decode cX12_furnace 89 = .ok (.getfield 51, 3) := by decide +kernel
theorem dX12_furnace_92 : decode cX12_furnace 92 = .ok (.invokestatic 195, 3) := by decide +kernel
theorem dX12_furnace_95 : decode cX12_furnace 95 = .ok (.ireturn, 1) := by decide +kernel
theorem dX12_furnace_96 : decode cX12_furnace 96 = .ok (.aload_n 0, 1) := by decide +kernel
theorem dX12_furnace_97 : decode cX12_furnace 97 = .ok (.getfield 206, 3) := by decide +kernel
theorem dX12_furnace_100 : decode cX12_furnace 100 = .ok (.ireturn, 1) := by decide +kernel
theorem dX12_furnace_101 : decode cX12_furnace 101 = .ok (.aload_n 0, 1) := by decide +kernel
theorem dX12_furnace_102 : decode cX12_furnace 102 = .ok (.getfield 224, 3) := by decide +kernel
theorem dX12_furnace_105 : decode cX12_furnace 105 = .ok (.ireturn, 1) := by decide +kernel
theorem dX12_furnace_106 : decode cX12_furnace 106 = .ok (.aload_n 0, 1) := by decide +kernel
theorem dX12_furnace_107 : decode cX12_furnace 107 = .ok (.getfield 54, 3) := by decide +kernel
theorem dX12_furnace_110 : decode cX12_furnace 110 = .ok (.ireturn, 1) := by decide +kernel
theorem dX12_furnace_111 : decode cX12_furnace 111 = .ok (.iconst (-1), 1) := by decide +kernel
theorem dX12_furnace_112 : decode cX12_furnace 112 = .ok (.ireturn, 1) := by decide +kernel
theorem dX12_byteOf_0 : decode cX12_byteOf 0 = .ok (.iload 5, 2) := by decide +kernel
theorem dX12_byteOf_2 : decode cX12_byteOf 2 = .ok (.iconst 4, 1) := by decide +kernel
theorem dX12_byteOf_3 : decode cX12_byteOf 3 = .ok (.if_icmp .ge 7, 3) := by decide +kernel
theorem dX12_byteOf_6 : decode cX12_byteOf 6 = .ok (.iload_n 0, 1) := by decide +kernel
theorem dX12_byteOf_7 : decode cX12_byteOf 7 = .ok (.goto 38, 3) := by decide +kernel
theorem dX12_byteOf_10 : decode cX12_byteOf 10 = .ok (.iload 5, 2) := by decide +kernel
theorem dX12_byteOf_12 : decode cX12_byteOf 12 = .ok (.bipush 8, 2) := by decide +kernel
theorem dX12_byteOf_14 : decode cX12_byteOf 14 = .ok (.if_icmp .ge 7, 3) := by decide +kernel
theorem dX12_byteOf_17 : decode cX12_byteOf 17 = .ok (.iload_n 1, 1) := by decide +kernel
theorem dX12_byteOf_18 : decode cX12_byteOf 18 = .ok (.goto 27, 3) := by decide +kernel
theorem dX12_byteOf_21 : decode cX12_byteOf 21 = .ok (.iload 5, 2) := by decide +kernel
theorem dX12_byteOf_23 : decode cX12_byteOf 23 = .ok (.bipush 12, 2) := by decide +kernel
theorem dX12_byteOf_25 : decode cX12_byteOf 25 = .ok (.if_icmp .ge 7, 3) := by decide +kernel
theorem dX12_byteOf_28 : decode cX12_byteOf 28 = .ok (.iload_n 2, 1) := by decide +kernel
theorem dX12_byteOf_29 : decode cX12_byteOf 29 = .ok (.goto 16, 3) := by decide +kernel
theorem dX12_byteOf_32 : decode cX12_byteOf 32 = .ok (.iload 5, 2) := by decide +kernel
theorem dX12_byteOf_34 : decode cX12_byteOf 34 = .ok (.bipush 16, 2) := by decide +kernel
theorem dX12_byteOf_36 : decode cX12_byteOf 36 = .ok (.if_icmp .ge 7, 3) := by decide +kernel
theorem dX12_byteOf_39 : decode cX12_byteOf 39 = .ok (.iload_n 3, 1) := by decide +kernel
theorem dX12_byteOf_40 : decode cX12_byteOf 40 = .ok (.goto 5, 3) := by decide +kernel
theorem dX12_byteOf_43 : decode cX12_byteOf 43 = .ok (.iload 4, 2) := by decide +kernel
theorem dX12_byteOf_45 : decode cX12_byteOf 45 = .ok (.istore 6, 2) := by decide +kernel
theorem dX12_byteOf_47 : decode cX12_byteOf 47 = .ok (.iload 6, 2) := by decide +kernel
theorem dX12_byteOf_49 : decode cX12_byteOf 49 = .ok (.bipush 24, 2) := by decide +kernel
theorem dX12_byteOf_51 : decode cX12_byteOf 51 = .ok (.bipush 8, 2) := by decide +kernel
theorem dX12_byteOf_53 : decode cX12_byteOf 53 = .ok (.iload 5, 2) := by decide +kernel
theorem dX12_byteOf_55 : decode cX12_byteOf 55 = .ok (.iconst 4, 1) := by decide +kernel
theorem dX12_byteOf_56 : decode cX12_byteOf 56 = .ok (.irem, 1) := by decide +kernel
theorem dX12_byteOf_57 : decode cX12_byteOf 57 = .ok (.imul, 1) := by decide +kernel
theorem dX12_byteOf_58 : decode cX12_byteOf 58 = .ok (.isub, 1) := by decide +kernel
theorem dX12_byteOf_59 : decode cX12_byteOf 59 = .ok (.ishr, 1) := by decide +kernel
theorem dX12_byteOf_60 : decode cX12_byteOf 60 = .ok (.sipush 255, 3) := by decide +kernel
theorem dX12_byteOf_63 : decode cX12_byteOf 63 = .ok (.iand, 1) := by decide +kernel
theorem dX12_byteOf_64 : decode cX12_byteOf 64 = .ok (.ireturn, 1) := by decide +kernel
theorem dX12_feed_0 : decode cX12_feed 0 = .ok (.iconst 0, 1) := by decide +kernel
theorem dX12_feed_1 : decode cX12_feed 1 = .ok (.istore 6, 2) := by decide +kernel
theorem dX12_feed_3 : decode cX12_feed 3 = .ok (.iconst 0, 1) := by decide +kernel
theorem dX12_feed_4 : decode cX12_feed 4 = .ok (.istore 7, 2) := by decide +kernel
theorem dX12_feed_6 : decode cX12_feed 6 = .ok (.iload 7, 2) := by decide +kernel
theorem dX12_feed_8 : decode cX12_feed 8 = .ok (.bipush 20, 2) := by decide +kernel
theorem dX12_feed_10 : decode cX12_feed 10 = .ok (.if_icmp .ge 34, 3) := by decide +kernel
theorem dX12_feed_13 : decode cX12_feed 13 = .ok (.iload 6, 2) := by decide +kernel
theorem dX12_feed_15 : decode cX12_feed 15 = .ok (.iload_n 1, 1) := by decide +kernel
theorem dX12_feed_16 : decode cX12_feed 16 = .ok (.iload_n 2, 1) := by decide +kernel
theorem dX12_feed_17 : decode cX12_feed 17 = .ok (.iload_n 3, 1) := by decide +kernel
theorem dX12_feed_18 : decode cX12_feed 18 = .ok (.iload 4, 2) := by decide +kernel
theorem dX12_feed_20 : decode cX12_feed 20 = .ok (.iload 5, 2) := by decide +kernel
theorem dX12_feed_22 : decode cX12_feed 22 = .ok (.iload 7, 2) := by decide +kernel
theorem dX12_feed_24 : decode cX12_feed 24 = .ok (.invokestatic 230, 3) := by decide +kernel
theorem dX12_feed_27 : decode cX12_feed 27 = .ok (.ifCond .eq 7, 3) := by decide +kernel
theorem dX12_feed_30 : decode cX12_feed 30 = .ok (.iconst 1, 1) := by decide +kernel
theorem dX12_feed_31 : decode cX12_feed 31 = .ok (.goto 4, 3) := by decide +kernel
theorem dX12_feed_34 : decode cX12_feed 34 = .ok (.iconst 0, 1) := by decide +kernel
theorem dX12_feed_35 : decode cX12_feed 35 = .ok (.iadd, 1) := by decide +kernel
theorem dX12_feed_36 : decode cX12_feed 36 = .ok (.istore 6, 2) := by decide +kernel
theorem dX12_feed_38 : decode cX12_feed 38 = .ok (.iinc 7 1, 3) := by decide +kernel
theorem dX12_feed_41 : decode cX12_feed 41 = .ok (.goto (-35), 3) := by decide +kernel
theorem dX12_feed_44 : decode cX12_feed 44 = .ok (.aload_n 0, 1) := by decide +kernel
theorem dX12_feed_45 : decode cX12_feed 45 = .ok (.getfield 234, 3) := by decide +kernel
theorem dX12_feed_48 : decode cX12_feed 48 = .ok (.iload 6, 2) := by decide +kernel
theorem dX12_feed_50 : decode cX12_feed 50 = .ok (.iadd, 1) := by decide +kernel
theorem dX12_feed_51 : decode cX12_feed 51 = .ok (.sipush 200, 3) := by decide +kernel
theorem dX12_feed_54 : decode cX12_feed 54 = .ok (.if_icmp .le 5, 3) := by decide +kernel
theorem dX12_feed_57 : decode cX12_feed 57 = .ok (.iconst (-1), 1) := by decide +kernel
theorem dX12_feed_58 : decode cX12_feed 58 = .ok (.ireturn, 1) := by decide +kernel
theorem dX12_feed_59 : decode cX12_feed 59 = .ok (.iconst 0, 1) := by decide +kernel
theorem dX12_feed_60 : decode cX12_feed 60 = .ok (.istore 7, 2) := by decide +kernel
theorem dX12_feed_62 : decode cX12_feed 62 = .ok (.iload 7, 2) := by decide +kernel
theorem dX12_feed_64 : decode cX12_feed 64 = .ok (.bipush 20, 2) := by decide +kernel
theorem dX12_feed_66 : decode cX12_feed 66 = .ok (.if_icmp .ge 49, 3) := by decide +kernel
theorem dX12_feed_69 : decode cX12_feed 69 = .ok (.iload_n 1, 1) := by decide +kernel
theorem dX12_feed_70 : decode cX12_feed 70 = .ok (.iload_n 2, 1) := by decide +kernel
theorem dX12_feed_71 : decode cX12_feed 71 = .ok (.iload_n 3, 1) := by decide +kernel
theorem dX12_feed_72 : decode cX12_feed 72 = .ok (.iload 4, 2) := by decide +kernel
theorem dX12_feed_74 : decode cX12_feed 74 = .ok (.iload 5, 2) := by decide +kernel
theorem dX12_feed_76 : decode cX12_feed 76 = .ok (.iload 7, 2) := by decide +kernel
theorem dX12_feed_78 : decode cX12_feed 78 = .ok (.invokestatic 230, 3) := by decide +kernel
theorem dX12_feed_81 : decode cX12_feed 81 = .ok (.istore 8, 2) := by decide +kernel
theorem dX12_feed_83 : decode cX12_feed 83 = .ok (.iload 8, 2) := by decide +kernel
theorem dX12_feed_85 : decode cX12_feed 85 = .ok (.ifCond .eq 24, 3) := by decide +kernel
theorem dX12_feed_88 : decode cX12_feed 88 = .ok (.aload_n 0, 1) := by decide +kernel
theorem dX12_feed_89 : decode cX12_feed 89 = .ok (.getfield 64, 3) := by decide +kernel
theorem dX12_feed_92 : decode cX12_feed 92 = .ok (.aload_n 0, 1) := by decide +kernel
theorem dX12_feed_93 : decode cX12_feed 93 = .ok (.getfield 234, 3) := by decide +kernel
theorem dX12_feed_96 : decode cX12_feed 96 = .ok (.iload 8, 2) := by decide +kernel
theorem dX12_feed_98 : decode cX12_feed 98 = .ok (.iastore, 1) := by decide +kernel
theorem dX12_feed_99 : decode cX12_feed 99 = .ok (.aload_n 0, 1) := by decide +kernel
theorem dX12_feed_100 : decode cX12_feed 100 = .ok (.dup, 1) := by decide +kernel
theorem dX12_feed_101 : decode cX12_feed 101 = .ok (.getfield 234, 3) := by decide +kernel
theorem dX12_feed_104 : decode cX12_feed 104 = .ok (.iconst 1, 1) := by decide +kernel
theorem dX12_feed_105 : decode cX12_feed 105 = .ok (.iadd, 1) := by decide +kernel
theorem dX12_feed_106 : decode cX12_feed 106 = .ok (.putfield 234, 3) := by decide +kernel
theorem dX12_feed_109 : decode cX12_feed 109 = .ok (.iinc 7 1, 3) := by decide +kernel
theorem dX12_feed_112 : decode cX12_feed 112 = .ok (.goto (-50), 3) := by decide +kernel
theorem dX12_feed_115 : decode cX12_feed 115 = .ok (.aload_n 0, 1) := by decide +kernel
theorem dX12_feed_116 : decode cX12_feed 116 = .ok (.getfield 234, 3) := by decide +kernel
theorem dX12_feed_119 : decode cX12_feed 119 = .ok (.ireturn, 1) := by decide +kernel
theorem dX12_end_0 : decode cX12_end 0 = .ok (.iload_n 1, 1) := by decide +kernel
theorem dX12_end_1 : decode cX12_end 1 = .ok (.ifCond .lt 11, 3) := by decide +kernel
theorem dX12_end_4 : decode cX12_end 4 = .ok (.iload_n 1, 1) := by decide +kernel
theorem dX12_end_5 : decode cX12_end 5 = .ok (.aload_n 0, 1) := by decide +kernel
theorem dX12_end_6 : decode cX12_end 6 = .ok (.getfield 234, 3) := by decide +kernel
theorem dX12_end_9 : decode cX12_end 9 = .ok (.if_icmp .le 5, 3) := by decide +kernel
theorem dX12_end_12 : decode cX12_end 12 = .ok (.iconst 0, 1) := by decide +kernel
theorem dX12_end_13 : decode cX12_end 13 = .ok (.ireturn, 1) := by decide +kernel
theorem dX12_end_14 : decode cX12_end 14 = .ok (.aload_n 0, 1) := by decide +kernel
theorem dX12_end_15 : decode cX12_end 15 = .ok (.iload_n 1, 1) := by decide +kernel
theorem dX12_end_16 : decode cX12_end 16 = .ok (.putfield 234, 3) := by decide +kernel
theorem dX12_end_19 : decode cX12_end 19 = .ok (.iconst 1, 1) := by decide +kernel
theorem dX12_end_20 : decode cX12_end 20 = .ok (.ireturn, 1) := by decide +kernel
theorem dX12_look_0 : decode cX12_look 0 = .ok (.aload_n 0, 1) := by decide +kernel
theorem dX12_look_1 : decode cX12_look 1 = .ok (.getfield 237, 3) := by decide +kernel
theorem dX12_look_4 : decode cX12_look 4 = .ok (.aload_n 0, 1) := by decide +kernel
theorem dX12_look_5 : decode cX12_look 5 = .ok (.getfield 234, 3) := by decide +kernel
theorem dX12_look_8 : decode cX12_look 8 = .ok (.if_icmp .ge 30, 3) := by decide +kernel
theorem dX12_look_11 : decode cX12_look 11 = .ok (.aload_n 0, 1) := by decide +kernel
theorem dX12_look_12 : decode cX12_look 12 = .ok (.getfield 64, 3) := by decide +kernel
theorem dX12_look_15 : decode cX12_look 15 = .ok (.aload_n 0, 1) := by decide +kernel
theorem dX12_look_16 : decode cX12_look 16 = .ok (.getfield 237, 3) := by decide +kernel
theorem dX12_look_19 : decode cX12_look 19 = .ok (.iaload, 1) := by decide +kernel
theorem dX12_look_20 : decode cX12_look 20 = .ok (.bipush 32, 2) := by decide +kernel
theorem dX12_look_22 : decode cX12_look 22 = .ok (.if_icmp .ne 16, 3) := by decide +kernel
theorem dX12_look_25 : decode cX12_look 25 = .ok (.aload_n 0, 1) := by decide +kernel
theorem dX12_look_26 : decode cX12_look 26 = .ok (.dup, 1) := by decide +kernel
theorem dX12_look_27 : decode cX12_look 27 = .ok (.getfield 237, 3) := by decide +kernel
theorem dX12_look_30 : decode cX12_look 30 = .ok (.iconst 1, 1) := by decide +kernel
theorem dX12_look_31 : decode cX12_look 31 = .ok (.iadd, 1) := by decide +kernel
theorem dX12_look_32 : decode cX12_look 32 = .ok (.putfield 237, 3) := by decide +kernel
theorem dX12_look_35 : decode cX12_look 35 = .ok (.goto (-35), 3) := by decide +kernel
theorem dX12_look_38 : decode cX12_look 38 = .ok (.aload_n 0, 1) := by decide +kernel
theorem dX12_look_39 : decode cX12_look 39 = .ok (.getfield 237, 3) := by decide +kernel
theorem dX12_look_42 : decode cX12_look 42 = .ok (.aload_n 0, 1) := by decide +kernel
theorem dX12_look_43 : decode cX12_look 43 = .ok (.getfield 234, 3) := by decide +kernel
theorem dX12_look_46 : decode cX12_look 46 = .ok (.if_icmp .ge 15, 3) := by decide +kernel
theorem dX12_look_49 : decode cX12_look 49 = .ok (.aload_n 0, 1) := by decide +kernel
theorem dX12_look_50 : decode cX12_look 50 = .ok (.getfield 64, 3) := by decide +kernel
theorem dX12_look_53 : decode cX12_look 53 = .ok (.aload_n 0, 1) := by decide +kernel
theorem dX12_look_54 : decode cX12_look 54 = .ok (.getfield 237, 3) := by decide +kernel
theorem dX12_look_57 : decode cX12_look 57 = .ok (.iaload, 1) := by decide +kernel
theorem dX12_look_58 : decode cX12_look 58 = .ok (.goto 4, 3) := by decide +kernel
theorem dX12_look_61 : decode cX12_look 61 = .ok (.iconst (-1), 1) := by decide +kernel
theorem dX12_look_62 : decode cX12_look 62 = .ok (.ireturn, 1) := by decide +kernel
theorem dX12_isDigit_0 : decode cX12_isDigit 0 = .ok (.iload_n 0, 1) := by decide +kernel
theorem dX12_isDigit_1 : decode cX12_isDigit 1 = .ok (.bipush 48, 2) := by decide +kernel
theorem dX12_isDigit_3 : decode cX12_isDigit 3 = .ok (.if_icmp .lt 13, 3) := by decide +kernel
theorem dX12_isDigit_6 : decode cX12_isDigit 6 = .ok (.iload_n 0, 1) := by decide +kernel
theorem dX12_isDigit_7 : decode cX12_isDigit 7 = .ok (.bipush 57, 2) := by decide +kernel
theorem dX12_isDigit_9 : decode cX12_isDigit 9 = .ok (.if_icmp .gt 7, 3) := by decide +kernel
theorem dX12_isDigit_12 : decode cX12_isDigit 12 = .ok (.iconst 1, 1) := by decide +kernel
theorem dX12_isDigit_13 : decode cX12_isDigit 13 = .ok (.goto 4, 3) := by decide +kernel
theorem dX12_isDigit_16 : decode cX12_isDigit 16 = .ok (.iconst 0, 1) := by decide +kernel
theorem dX12_isDigit_17 : decode cX12_isDigit 17 = .ok (.ireturn, 1) := by decide +kernel
theorem dX12_clause_0 : decode cX12_clause 0 = .ok (.aload_n 0, 1) := by decide +kernel
theorem dX12_clause_1 : decode cX12_clause 1 = .ok (.invokevirtual 240, 3) := by decide +kernel
theorem dX12_clause_4 : decode cX12_clause 4 = .ok (.istore_n 1, 1) := by decide +kernel
theorem dX12_clause_5 : decode cX12_clause 5 = .ok (.iload_n 1, 1) := by decide +kernel
theorem dX12_clause_6 : decode cX12_clause 6 = .ok (.bipush 104, 2) := by decide +kernel
theorem dX12_clause_8 : decode cX12_clause 8 = .ok (.if_icmp .eq 23, 3) := by decide +kernel
theorem dX12_clause_11 : decode cX12_clause 11 = .ok (.iload_n 1, 1) := by decide +kernel
theorem dX12_clause_12 : decode cX12_clause 12 = .ok (.bipush 109, 2) := by decide +kernel
theorem dX12_clause_14 : decode cX12_clause 14 = .ok (.if_icmp .eq 17, 3) := by decide +kernel
theorem dX12_clause_17 : decode cX12_clause 17 = .ok (.iload_n 1, 1) := by decide +kernel
theorem dX12_clause_18 : decode cX12_clause 18 = .ok (.bipush 99, 2) := by decide +kernel
theorem dX12_clause_20 : decode cX12_clause 20 = .ok (.if_icmp .eq 11, 3) := by decide +kernel
theorem dX12_clause_23 : decode cX12_clause 23 = .ok (.iload_n 1, 1) := by decide +kernel
theorem dX12_clause_24 : decode cX12_clause 24 = .ok (.bipush 111, 2) := by decide +kernel
theorem dX12_clause_26 : decode cX12_clause 26 = .ok (.if_icmp .eq 5, 3) := by decide +kernel
theorem dX12_clause_29 : decode cX12_clause 29 = .ok (.iconst 0, 1) := by decide +kernel
theorem dX12_clause_30 : decode cX12_clause 30 = .ok (.ireturn, 1) := by decide +kernel
theorem dX12_clause_31 : decode cX12_clause 31 = .ok (.aload_n 0, 1) := by decide +kernel
theorem dX12_clause_32 : decode cX12_clause 32 = .ok (.dup, 1) := by decide +kernel
theorem dX12_clause_33 : decode cX12_clause 33 = .ok (.getfield 237, 3) := by decide +kernel
theorem dX12_clause_36 : decode cX12_clause 36 = .ok (.iconst 1, 1) := by decide +kernel
theorem dX12_clause_37 : decode cX12_clause 37 = .ok (.iadd, 1) := by decide +kernel
theorem dX12_clause_38 : decode cX12_clause 38 = .ok (.putfield 237, 3) := by decide +kernel
theorem dX12_clause_41 : decode cX12_clause 41 = .ok (.aload_n 0, 1) := by decide +kernel
theorem dX12_clause_42 : decode cX12_clause 42 = .ok (.invokevirtual 240, 3) := by decide +kernel
theorem dX12_clause_45 : decode cX12_clause 45 = .ok (.istore_n 2, 1) := by decide +kernel
theorem dX12_clause_46 : decode cX12_clause 46 = .ok (.iload_n 2, 1) := by decide +kernel
theorem dX12_clause_47 : decode cX12_clause 47 = .ok (.bipush 61, 2) := by decide +kernel
theorem dX12_clause_49 : decode cX12_clause 49 = .ok (.if_icmp .eq 17, 3) := by decide +kernel
theorem dX12_clause_52 : decode cX12_clause 52 = .ok (.iload_n 2, 1) := by decide +kernel
theorem dX12_clause_53 : decode cX12_clause 53 = .ok (.bipush 60, 2) := by decide +kernel
theorem dX12_clause_55 : decode cX12_clause 55 = .ok (.if_icmp .eq 11, 3) := by decide +kernel
theorem dX12_clause_58 : decode cX12_clause 58 = .ok (.iload_n 2, 1) := by decide +kernel
theorem dX12_clause_59 : decode cX12_clause 59 = .ok (.bipush 62, 2) := by decide +kernel
theorem dX12_clause_61 : decode cX12_clause 61 = .ok (.if_icmp .eq 5, 3) := by decide +kernel
theorem dX12_clause_64 : decode cX12_clause 64 = .ok (.iconst 0, 1) := by decide +kernel
theorem dX12_clause_65 : decode cX12_clause 65 = .ok (.ireturn, 1) := by decide +kernel
theorem dX12_clause_66 : decode cX12_clause 66 = .ok (.aload_n 0, 1) := by decide +kernel
theorem dX12_clause_67 : decode cX12_clause 67 = .ok (.dup, 1) := by decide +kernel
theorem dX12_clause_68 : decode cX12_clause 68 = .ok (.getfield 237, 3) := by decide +kernel
theorem dX12_clause_71 : decode cX12_clause 71 = .ok (.iconst 1, 1) := by decide +kernel
theorem dX12_clause_72 : decode cX12_clause 72 = .ok (.iadd, 1) := by decide +kernel
theorem dX12_clause_73 : decode cX12_clause 73 = .ok (.putfield 237, 3) := by decide +kernel
theorem dX12_clause_76 : decode cX12_clause 76 = .ok (.aload_n 0, 1) := by decide +kernel
theorem dX12_clause_77 : decode cX12_clause 77 = .ok (.invokevirtual 240, 3) := by decide +kernel
theorem dX12_clause_80 : decode cX12_clause 80 = .ok (.invokestatic 244, 3) := by decide +kernel
theorem dX12_clause_83 : decode cX12_clause 83 = .ok (.ifCond .ne 5, 3) := by decide +kernel
theorem dX12_clause_86 : decode cX12_clause 86 = .ok (.iconst 0, 1) := by decide +kernel
theorem dX12_clause_87 : decode cX12_clause 87 = .ok (.ireturn, 1) := by decide +kernel
theorem dX12_clause_88 : decode cX12_clause 88 = .ok (.iconst 0, 1) := by decide +kernel
theorem dX12_clause_89 : decode cX12_clause 89 = .ok (.istore_n 3, 1) := by decide +kernel
theorem dX12_clause_90 : decode cX12_clause 90 = .ok (.iconst 0, 1) := by decide +kernel
theorem dX12_clause_91 : decode cX12_clause 91 = .ok (.istore 4, 2) := by decide +kernel
theorem dX12_clause_93 : decode cX12_clause 93 = .ok (.aload_n 0, 1) := by decide +kernel
theorem dX12_clause_94 : decode cX12_clause 94 = .ok (.getfield 237, 3) := by decide +kernel
theorem dX12_clause_97 : decode cX12_clause 97 = .ok (.aload_n 0, 1) := by decide +kernel
theorem dX12_clause_98 : decode cX12_clause 98 = .ok (.getfield 234, 3) := by decide +kernel
theorem dX12_clause_101 : decode cX12_clause 101 = .ok (.if_icmp .ge 60, 3) := by decide +kernel
theorem dX12_clause_104 : decode cX12_clause 104 = .ok (.aload_n 0, 1) := by decide +kernel
theorem dX12_clause_105 : decode cX12_clause 105 = .ok (.getfield 64, 3) := by decide +kernel
theorem dX12_clause_108 : decode cX12_clause 108 = .ok (.aload_n 0, 1) := by decide +kernel
theorem dX12_clause_109 : decode cX12_clause 109 = .ok (.getfield 237, 3) := by decide +kernel
theorem dX12_clause_112 : decode cX12_clause 112 = .ok (.iaload, 1) := by decide +kernel
theorem dX12_clause_113 : decode cX12_clause 113 = .ok (.invokestatic 244, 3) := by decide +kernel
theorem dX12_clause_116 : decode cX12_clause 116 = .ok (.ifCond .eq 45, 3) := by decide +kernel
theorem dX12_clause_119 : decode cX12_clause 119 = .ok (.iload 4, 2) := by decide +kernel
theorem dX12_clause_121 : decode cX12_clause 121 = .ok (.iconst 5, 1) := by decide +kernel
theorem dX12_clause_122 : decode cX12_clause 122 = .ok (.if_icmp .ne 5, 3) := by decide +kernel
theorem dX12_clause_125 : decode cX12_clause 125 = .ok (.iconst 0, 1) := by decide +kernel
theorem dX12_clause_126 : decode cX12_clause 126 = .ok (.ireturn, 1) := by decide +kernel
theorem dX12_clause_127 : decode cX12_clause 127 = .ok (.bipush 10, 2) := by decide +kernel
theorem dX12_clause_129 : decode cX12_clause 129 = .ok (.iload_n 3, 1) := by decide +kernel
theorem dX12_clause_130 : decode cX12_clause 130 = .ok (.imul, 1) := by decide +kernel
theorem dX12_clause_131 : decode cX12_clause 131 = .ok (.aload_n 0, 1) := by decide +kernel
theorem dX12_clause_132 : decode cX12_clause 132 = .ok (.getfield 64, 3) := by decide +kernel
theorem dX12_clause_135 : decode cX12_clause 135 = .ok (.aload_n 0, 1) := by decide +kernel
theorem dX12_clause_136 : decode cX12_clause 136 = .ok (.getfield 237, 3) := by decide +kernel
theorem dX12_clause_139 : decode cX12_clause 139 = .ok (.iaload, 1) := by decide +kernel
theorem dX12_clause_140 : decode cX12_clause 140 = .ok (.iadd, 1) := by decide +kernel
theorem dX12_clause_141 : decode cX12_clause 141 = .ok (.bipush 48, 2) := by decide +kernel
theorem dX12_clause_143 : decode cX12_clause 143 = .ok (.isub, 1) := by decide +kernel
theorem dX12_clause_144 : decode cX12_clause 144 = .ok (.istore_n 3, 1) := by decide +kernel
theorem dX12_clause_145 : decode cX12_clause 145 = .ok (.iinc 4 1, 3) := by decide +kernel
theorem dX12_clause_148 : decode cX12_clause 148 = .ok (.aload_n 0, 1) := by decide +kernel
theorem dX12_clause_149 : decode cX12_clause 149 = .ok (.dup, 1) := by decide +kernel
theorem dX12_clause_150 : decode cX12_clause 150 = .ok (.getfield 237, 3) := by decide +kernel
theorem dX12_clause_153 : decode cX12_clause 153 = .ok (.iconst 1, 1) := by decide +kernel
theorem dX12_clause_154 : decode cX12_clause 154 = .ok (.iadd, 1) := by decide +kernel
theorem dX12_clause_155 : decode cX12_clause 155 = .ok (.putfield 237, 3) := by decide +kernel
theorem dX12_clause_158 : decode cX12_clause 158 = .ok (.goto (-65), 3) := by decide +kernel
theorem dX12_clause_161 : decode cX12_clause 161 = .ok (.aload_n 0, 1) := by decide +kernel
theorem dX12_clause_162 : decode cX12_clause 162 = .ok (.invokevirtual 240, 3) := by decide +kernel
theorem dX12_clause_165 : decode cX12_clause 165 = .ok (.bipush 58, 2) := by decide +kernel
theorem dX12_clause_167 : decode cX12_clause 167 = .ok (.if_icmp .eq 5, 3) := by decide +kernel
theorem dX12_clause_170 : decode cX12_clause 170 = .ok (.iconst 0, 1) := by decide +kernel
theorem dX12_clause_171 : decode cX12_clause 171 = .ok (.ireturn, 1) := by decide +kernel
theorem dX12_clause_172 : decode cX12_clause 172 = .ok (.aload_n 0, 1) := by decide +kernel
theorem dX12_clause_173 : decode cX12_clause 173 = .ok (.dup, 1) := by decide +kernel
theorem dX12_clause_174 : decode cX12_clause 174 = .ok (.getfield 237, 3) := by decide +kernel
theorem dX12_clause_177 : decode cX12_clause 177 = .ok (.iconst 1, 1) := by decide +kernel
theorem dX12_clause_178 : decode cX12_clause 178 = .ok (.iadd, 1) := by decide +kernel
theorem dX12_clause_179 : decode cX12_clause 179 = .ok (.putfield 237, 3) := by decide +kernel
theorem dX12_clause_182 : decode cX12_clause 182 = .ok (.aload_n 0, 1) := by decide +kernel
theorem dX12_clause_183 : decode cX12_clause 183 = .ok (.invokevirtual 240, 3) := by decide +kernel
theorem dX12_clause_186 : decode cX12_clause 186 = .ok (.invokestatic 244, 3) := by decide +kernel
theorem dX12_clause_189 : decode cX12_clause 189 = .ok (.ifCond .ne 5, 3) := by decide +kernel
theorem dX12_clause_192 : decode cX12_clause 192 = .ok (.iconst 0, 1) := by decide +kernel
theorem dX12_clause_193 : decode cX12_clause 193 = .ok (.ireturn, 1) := by decide +kernel
theorem dX12_clause_194 : decode cX12_clause 194 = .ok (.aload_n 0, 1) := by decide +kernel
theorem dX12_clause_195 : decode cX12_clause 195 = .ok (.getfield 79, 3) := by decide +kernel
theorem dX12_clause_198 : decode cX12_clause 198 = .ok (.aload_n 0, 1) := by decide +kernel
theorem dX12_clause_199 : decode cX12_clause 199 = .ok (.getfield 247, 3) := by decide +kernel
theorem dX12_clause_202 : decode cX12_clause 202 = .ok (.iload_n 1, 1) := by decide +kernel
theorem dX12_clause_203 : decode cX12_clause 203 = .ok (.iastore, 1) := by decide +kernel
theorem dX12_clause_204 : decode cX12_clause 204 = .ok (.aload_n 0, 1) := by decide +kernel
theorem dX12_clause_205 : decode cX12_clause 205 = .ok (.getfield 82, 3) := by decide +kernel
theorem dX12_clause_208 : decode cX12_clause 208 = .ok (.aload_n 0, 1) := by decide +kernel
theorem dX12_clause_209 : decode cX12_clause 209 = .ok (.getfield 247, 3) := by decide +kernel
theorem dX12_clause_212 : decode cX12_clause 212 = .ok (.iload_n 2, 1) := by decide +kernel
theorem dX12_clause_213 : decode cX12_clause 213 = .ok (.iastore, 1) := by decide +kernel
theorem dX12_clause_214 : decode cX12_clause 214 = .ok (.aload_n 0, 1) := by decide +kernel
theorem dX12_clause_215 : decode cX12_clause 215 = .ok (.getfield 85, 3) := by decide +kernel
theorem dX12_clause_218 : decode cX12_clause 218 = .ok (.aload_n 0, 1) := by decide +kernel
theorem dX12_clause_219 : decode cX12_clause 219 = .ok (.getfield 247, 3) := by decide +kernel
theorem dX12_clause_222 : decode cX12_clause 222 = .ok (.iload_n 3, 1) := by decide +kernel
theorem dX12_clause_223 : decode cX12_clause 223 = .ok (.iastore, 1) := by decide +kernel
theorem dX12_clause_224 : decode cX12_clause 224 = .ok (.aload_n 0, 1) := by decide +kernel
theorem dX12_clause_225 : decode cX12_clause 225 = .ok (.getfield 88, 3) := by decide +kernel
theorem dX12_clause_228 : decode cX12_clause 228 = .ok (.aload_n 0, 1) := by decide +kernel
theorem dX12_clause_229 : decode cX12_clause 229 = .ok (.getfield 247, 3) := by decide +kernel
theorem dX12_clause_232 : decode cX12_clause 232 = .ok (.aload_n 0, 1) := by decide +kernel
theorem dX12_clause_233 : decode cX12_clause 233 = .ok (.getfield 64, 3) := by decide +kernel
theorem dX12_clause_236 : decode cX12_clause 236 = .ok (.aload_n 0, 1) := by decide +kernel
theorem dX12_clause_237 : decode cX12_clause 237 = .ok (.getfield 237, 3) := by decide +kernel
theorem dX12_clause_240 : decode cX12_clause 240 = .ok (.iaload, 1) := by decide +kernel
theorem dX12_clause_241 : decode cX12_clause 241 = .ok (.bipush 48, 2) := by decide +kernel
theorem dX12_clause_243 : decode cX12_clause 243 = .ok (.isub, 1) := by decide +kernel
theorem dX12_clause_244 : decode cX12_clause 244 = .ok (.iastore, 1) := by decide +kernel
theorem dX12_clause_245 : decode cX12_clause 245 = .ok (.aload_n 0, 1) := by decide +kernel
theorem dX12_clause_246 : decode cX12_clause 246 = .ok (.dup, 1) := by decide +kernel
theorem dX12_clause_247 : decode cX12_clause 247 = .ok (.getfield 247, 3) := by decide +kernel
theorem dX12_clause_250 : decode cX12_clause 250 = .ok (.iconst 1, 1) := by decide +kernel
theorem dX12_clause_251 : decode cX12_clause 251 = .ok (.iadd, 1) := by decide +kernel
theorem dX12_clause_252 : decode cX12_clause 252 = .ok (.putfield 247, 3) := by decide +kernel
theorem dX12_clause_255 : decode cX12_clause 255 = .ok (.aload_n 0, 1) := by decide +kernel
theorem dX12_clause_256 : decode cX12_clause 256 = .ok (.dup, 1) := by decide +kernel
theorem dX12_clause_257 : decode cX12_clause 257 = .ok (.getfield 237, 3) := by decide +kernel
theorem dX12_clause_260 : decode cX12_clause 260 = .ok (.iconst 1, 1) := by decide +kernel
theorem dX12_clause_261 : decode cX12_clause 261 = .ok (.iadd, 1) := by decide +kernel
theorem dX12_clause_262 : decode cX12_clause 262 = .ok (.putfield 237, 3) := by decide +kernel
theorem dX12_clause_265 : decode cX12_clause 265 = .ok (.iconst 1, 1) := by decide +kernel
theorem dX12_clause_266 : decode cX12_clause 266 = .ok (.ireturn, 1) := by decide +kernel
theorem dX12_fault_0 : decode cX12_fault 0 = .ok (.aload_n 0, 1) := by decide +kernel
theorem dX12_fault_1 : decode cX12_fault 1 = .ok (.iconst 0, 1) := by decide +kernel
theorem dX12_fault_2 : decode cX12_fault 2 = .ok (.putfield 237, 3) := by decide +kernel
theorem dX12_fault_5 : decode cX12_fault 5 = .ok (.aload_n 0, 1) := by decide +kernel
theorem dX12_fault_6 : decode cX12_fault 6 = .ok (.iconst 0, 1) := by decide +kernel
theorem dX12_fault_7 : decode cX12_fault 7 = .ok (.putfield 247, 3) := by decide +kernel
theorem dX12_fault_10 : decode cX12_fault 10 = .ok (.aload_n 0, 1) := by decide +kernel
theorem dX12_fault_11 : decode cX12_fault 11 = .ok (.invokevirtual 240, 3) := by decide +kernel
theorem dX12_fault_14 : decode cX12_fault 14 = .ok (.iconst (-1), 1) := by decide +kernel
theorem dX12_fault_15 : decode cX12_fault 15 = .ok (.if_icmp .ne 5, 3) := by decide +kernel
theorem dX12_fault_18 : decode cX12_fault 18 = .ok (.iconst (-1), 1) := by decide +kernel
theorem dX12_fault_19 : decode cX12_fault 19 = .ok (.ireturn, 1) := by decide +kernel
theorem dX12_fault_20 : decode cX12_fault 20 = .ok (.aload_n 0, 1) := by decide +kernel
theorem dX12_fault_21 : decode cX12_fault 21 = .ok (.invokevirtual 250, 3) := by decide +kernel
theorem dX12_fault_24 : decode cX12_fault 24 = .ok (.ifCond .ne 8, 3) := by decide +kernel
theorem dX12_fault_27 : decode cX12_fault 27 = .ok (.aload_n 0, 1) := by decide +kernel
theorem dX12_fault_28 : decode cX12_fault 28 = .ok (.getfield 237, 3) := by decide +kernel
theorem dX12_fault_31 : decode cX12_fault 31 = .ok (.ireturn, 1) := by decide +kernel
theorem dX12_fault_32 : decode cX12_fault 32 = .ok (.aload_n 0, 1) := by decide +kernel
theorem dX12_fault_33 : decode cX12_fault 33 = .ok (.invokevirtual 240, 3) := by decide +kernel
theorem dX12_fault_36 : decode cX12_fault 36 = .ok (.istore_n 1, 1) := by decide +kernel
theorem dX12_fault_37 : decode cX12_fault 37 = .ok (.iload_n 1, 1) := by decide +kernel
theorem dX12_fault_38 : decode cX12_fault 38 = .ok (.iconst (-1), 1) := by decide +kernel
theorem dX12_fault_39 : decode cX12_fault 39 = .ok (.if_icmp .ne 5, 3) := by decide +kernel
theorem dX12_fault_42 : decode cX12_fault 42 = .ok (.iconst (-1), 1) := by decide +kernel
theorem dX12_fault_43 : decode cX12_fault 43 = .ok (.ireturn, 1) := by decide +kernel
theorem dX12_fault_44 : decode cX12_fault 44 = .ok (.iload_n 1, 1) := by decide +kernel
theorem dX12_fault_45 : decode cX12_fault 45 = .ok (.bipush 59, 2) := by decide +kernel
theorem dX12_fault_47 : decode cX12_fault 47 = .ok (.if_icmp .eq 8, 3) := by decide +kernel
theorem dX12_fault_50 : decode cX12_fault 50 = .ok (.aload_n 0, 1) := by decide +kernel
theorem dX12_fault_51 : decode cX12_fault 51 = .ok (.getfield 237, 3) := by decide +kernel
theorem dX12_fault_54 : decode cX12_fault 54 = .ok (.ireturn, 1) := by decide +kernel
theorem dX12_fault_55 : decode cX12_fault 55 = .ok (.aload_n 0, 1) := by decide +kernel
theorem dX12_fault_56 : decode cX12_fault 56 = .ok (.dup, 1) := by decide +kernel
theorem dX12_fault_57 : decode cX12_fault 57 = .ok (.getfield 237, 3) := by decide +kernel
theorem dX12_fault_60 : decode cX12_fault 60 = .ok (.iconst 1, 1) := by decide +kernel
theorem dX12_fault_61 : decode cX12_fault 61 = .ok (.iadd, 1) := by decide +kernel
theorem dX12_fault_62 : decode cX12_fault 62 = .ok (.putfield 237, 3) := by decide +kernel
theorem dX12_fault_65 : decode cX12_fault 65 = .ok (.goto (-45), 3) := by decide +kernel
theorem dX12_rules_0 : decode cX12_rules 0 = .ok (.aload_n 0, 1) := by decide +kernel
theorem dX12_rules_1 : decode cX12_rules 1 = .ok (.invokevirtual 254, 3) := by decide +kernel
theorem dX12_rules_4 : decode cX12_rules 4 = .ok (.iconst (-1), 1) := by decide +kernel
theorem dX12_rules_5 : decode cX12_rules 5 = .ok (.if_icmp .eq 5, 3) := by decide +kernel
theorem dX12_rules_8 : decode cX12_rules 8 = .ok (.iconst 0, 1) := by decide +kernel
theorem dX12_rules_9 : decode cX12_rules 9 = .ok (.ireturn, 1) := by decide +kernel
theorem dX12_rules_10 : decode cX12_rules 10 = .ok (.aload_n 0, 1) := by decide +kernel
theorem dX12_rules_11 : decode cX12_rules 11 = .ok (.aload_n 0, 1) := by decide +kernel
theorem dX12_rules_12 : decode cX12_rules 12 = .ok (.getfield 247, 3) := by decide +kernel
theorem dX12_rules_15 : decode cX12_rules 15 = .ok (.putfield 215, 3) := by decide +kernel
theorem dX12_rules_18 : decode cX12_rules 18 = .ok (.iconst 0, 1) := by decide +kernel
theorem dX12_rules_19 : decode cX12_rules 19 = .ok (.istore_n 1, 1) := by decide +kernel
theorem dX12_rules_20 : decode cX12_rules 20 = .ok (.iload_n 1, 1) := by decide +kernel
theorem dX12_rules_21 : decode cX12_rules 21 = .ok (.aload_n 0, 1) := by decide +kernel
theorem dX12_rules_22 : decode cX12_rules 22 = .ok (.getfield 247, 3) := by decide +kernel
theorem dX12_rules_25 : decode cX12_rules 25 = .ok (.if_icmp .ge 57, 3) := by decide +kernel
theorem dX12_rules_28 : decode cX12_rules 28 = .ok (.aload_n 0, 1) := by decide +kernel
theorem dX12_rules_29 : decode cX12_rules 29 = .ok (.getfield 67, 3) := by decide +kernel
theorem dX12_rules_32 : decode cX12_rules 32 = .ok (.iload_n 1, 1) := by decide +kernel
theorem dX12_rules_33 : decode cX12_rules 33 = .ok (.aload_n 0, 1) := by decide +kernel
theorem dX12_rules_34 : decode cX12_rules 34 = .ok (.getfield 79, 3) := by decide +kernel
theorem dX12_rules_37 : decode cX12_rules 37 = .ok (.iload_n 1, 1) := by decide +kernel
theorem dX12_rules_38 : decode cX12_rules 38 = .ok (.iaload, 1) := by decide +kernel
theorem dX12_rules_39 : decode cX12_rules 39 = .ok (.iastore, 1) := by decide +kernel
theorem dX12_rules_40 : decode cX12_rules 40 = .ok (.aload_n 0, 1) := by decide +kernel
theorem dX12_rules_41 : decode cX12_rules 41 = .ok (.getfield 70, 3) := by decide +kernel
theorem dX12_rules_44 : decode cX12_rules 44 = .ok (.iload_n 1, 1) := by decide +kernel
theorem dX12_rules_45 : decode cX12_rules 45 = .ok (.aload_n 0, 1) := by decide +kernel
theorem dX12_rules_46 : decode cX12_rules 46 = .ok (.getfield 82, 3) := by decide +kernel
theorem dX12_rules_49 : decode cX12_rules 49 = .ok (.iload_n 1, 1) := by decide +kernel
theorem dX12_rules_50 : decode cX12_rules 50 = .ok (.iaload, 1) := by decide +kernel
theorem dX12_rules_51 : decode cX12_rules 51 = .ok (.iastore, 1) := by decide +kernel
theorem dX12_rules_52 : decode cX12_rules 52 = .ok (.aload_n 0, 1) := by decide +kernel
theorem dX12_rules_53 : decode cX12_rules 53 = .ok (.getfield 73, 3) := by decide +kernel
theorem dX12_rules_56 : decode cX12_rules 56 = .ok (.iload_n 1, 1) := by decide +kernel
theorem dX12_rules_57 : decode cX12_rules 57 = .ok (.aload_n 0, 1) := by decide +kernel
theorem dX12_rules_58 : decode cX12_rules 58 = .ok (.getfield 85, 3) := by decide +kernel
theorem dX12_rules_61 : decode cX12_rules 61 = .ok (.iload_n 1, 1) := by decide +kernel
theorem dX12_rules_62 : decode cX12_rules 62 = .ok (.iaload, 1) := by decide +kernel
theorem dX12_rules_63 : decode cX12_rules 63 = .ok (.iastore, 1) := by decide +kernel
theorem dX12_rules_64 : decode cX12_rules 64 = .ok (.aload_n 0, 1) := by decide +kernel
theorem dX12_rules_65 : decode cX12_rules 65 = .ok (.getfield 76, 3) := by decide +kernel
theorem dX12_rules_68 : decode cX12_rules 68 = .ok (.iload_n 1, 1) := by decide +kernel
theorem dX12_rules_69 : decode cX12_rules 69 = .ok (.aload_n 0, 1) := by decide +kernel
theorem dX12_rules_70 : decode cX12_rules 70 = .ok (.getfield 88, 3) := by decide +kernel
theorem dX12_rules_73 : decode cX12_rules 73 = .ok (.iload_n 1, 1) := by decide +kernel
theorem dX12_rules_74 : decode cX12_rules 74 = .ok (.iaload, 1) := by decide +kernel
theorem dX12_rules_75 : decode cX12_rules 75 = .ok (.iastore, 1) := by decide +kernel
theorem dX12_rules_76 : decode cX12_rules 76 = .ok (.iinc 1 1, 3) := by decide +kernel
theorem dX12_rules_79 : decode cX12_rules 79 = .ok (.goto (-59), 3) := by decide +kernel
theorem dX12_rules_82 : decode cX12_rules 82 = .ok (.aload_n 0, 1) := by decide +kernel
theorem dX12_rules_83 : decode cX12_rules 83 = .ok (.iconst 0, 1) := by decide +kernel
theorem dX12_rules_84 : decode cX12_rules 84 = .ok (.putfield 234, 3) := by decide +kernel
theorem dX12_rules_87 : decode cX12_rules 87 = .ok (.iconst 1, 1) := by decide +kernel
theorem dX12_rules_88 : decode cX12_rules 88 = .ok (.ireturn, 1) := by decide +kernel
theorem dX12_holds_0 : decode cX12_holds 0 = .ok (.aload_n 0, 1) := by decide +kernel
theorem dX12_holds_1 : decode cX12_holds 1 = .ok (.getfield 67, 3) := by decide +kernel
theorem dX12_holds_4 : decode cX12_holds 4 = .ok (.iload_n 1, 1) := by decide +kernel
theorem dX12_holds_5 : decode cX12_holds 5 = .ok (.iaload, 1) := by decide +kernel
theorem dX12_holds_6 : decode cX12_holds 6 = .ok (.istore_n 2, 1) := by decide +kernel
theorem dX12_holds_7 : decode cX12_holds 7 = .ok (.iload_n 2, 1) := by decide +kernel
theorem dX12_holds_8 : decode cX12_holds 8 = .ok (.bipush 104, 2) := by decide +kernel
theorem dX12_holds_10 : decode cX12_holds 10 = .ok (.if_icmp .ne 10, 3) := by decide +kernel
theorem dX12_holds_13 : decode cX12_holds 13 = .ok (.aload_n 0, 1) := by decide +kernel
theorem dX12_holds_14 : decode cX12_holds 14 = .ok (.getfield 212, 3) := by decide +kernel
theorem dX12_holds_17 : decode cX12_holds 17 = .ok (.goto 44, 3) := by decide +kernel
theorem dX12_holds_20 : decode cX12_holds 20 = .ok (.iload_n 2, 1) := by decide +kernel
theorem dX12_holds_21 : decode cX12_holds 21 = .ok (.bipush 109, 2) := by decide +kernel
theorem dX12_holds_23 : decode cX12_holds 23 = .ok (.if_icmp .ne 10, 3) := by decide +kernel
theorem dX12_holds_26 : decode cX12_holds 26 = .ok (.aload_n 0, 1) := by decide +kernel
theorem dX12_holds_27 : decode cX12_holds 27 = .ok (.getfield 206, 3) := by decide +kernel
theorem dX12_holds_30 : decode cX12_holds 30 = .ok (.goto 31, 3) := by decide +kernel
theorem dX12_holds_33 : decode cX12_holds 33 = .ok (.iload_n 2, 1) := by decide +kernel
theorem dX12_holds_34 : decode cX12_holds 34 = .ok (.bipush 99, 2) := by decide +kernel
theorem dX12_holds_36 : decode cX12_holds 36 = .ok (.if_icmp .ne 18, 3) := by decide +kernel
theorem dX12_holds_39 : decode cX12_holds 39 = .ok (.aload_n 0, 1) := by decide +kernel
theorem dX12_holds_40 : decode cX12_holds 40 = .ok (.getfield 48, 3) := by decide +kernel
theorem dX12_holds_43 : decode cX12_holds 43 = .ok (.invokestatic 195, 3) := by decide +kernel
theorem dX12_holds_46 : decode cX12_holds 46 = .ok (.aload_n 0, 1) := by decide +kernel
theorem dX12_holds_47 : decode cX12_holds 47 = .ok (.getfield 199, 3) := by decide +kernel
theorem dX12_holds_50 : decode cX12_holds 50 = .ok (.isub, 1) := by decide +kernel
theorem dX12_holds_51 : decode cX12_holds 51 = .ok (.goto 10, 3) := by decide +kernel
theorem dX12_holds_54 : decode cX12_holds 54 = .ok (.aload_n 0, 1) := by decide +kernel
theorem dX12_holds_55 : decode cX12_holds 55 = .ok (.getfield 45, 3) := by decide +kernel
theorem dX12_holds_58 : decode cX12_holds 58 = .ok (.invokestatic 195, 3) := by decide +kernel
theorem dX12_holds_61 : decode cX12_holds 61 = .ok (.istore_n 3, 1) := by decide +kernel
theorem dX12_holds_62 : decode cX12_holds 62 = .ok (.aload_n 0, 1) := by decide +kernel
theorem dX12_holds_63 : decode cX12_holds 63 = .ok (.getfield 70, 3) := by decide +kernel
theorem dX12_holds_66 : decode cX12_holds 66 = .ok (.iload_n 1, 1) := by decide +kernel
theorem dX12_holds_67 : decode cX12_holds 67 = .ok (.iaload, 1) := by decide +kernel
theorem dX12_holds_68 : decode cX12_holds 68 = .ok (.bipush 61, 2) := by decide +kernel
theorem dX12_holds_70 : decode cX12_holds 70 = .ok (.if_icmp .ne 21, 3) := by decide +kernel
theorem dX12_holds_73 : decode cX12_holds 73 = .ok (.iload_n 3, 1) := by decide +kernel
theorem dX12_holds_74 : decode cX12_holds 74 = .ok (.aload_n 0, 1) := by decide +kernel
theorem dX12_holds_75 : decode cX12_holds 75 = .ok (.getfield 73, 3) := by decide +kernel
theorem dX12_holds_78 : decode cX12_holds 78 = .ok (.iload_n 1, 1) := by decide +kernel
theorem dX12_holds_79 : decode cX12_holds 79 = .ok (.iaload, 1) := by decide +kernel
theorem dX12_holds_80 : decode cX12_holds 80 = .ok (.if_icmp .ne 7, 3) := by decide +kernel
theorem dX12_holds_83 : decode cX12_holds 83 = .ok (.iconst 1, 1) := by decide +kernel
theorem dX12_holds_84 : decode cX12_holds 84 = .ok (.goto 51, 3) := by decide +kernel
theorem dX12_holds_87 : decode cX12_holds 87 = .ok (.iconst 0, 1) := by decide +kernel
theorem dX12_holds_88 : decode cX12_holds 88 = .ok (.goto 47, 3) := by decide +kernel
theorem dX12_holds_91 : decode cX12_holds 91 = .ok (.aload_n 0, 1) := by decide +kernel
theorem dX12_holds_92 : decode cX12_holds 92 = .ok (.getfield 70, 3) := by decide +kernel
theorem dX12_holds_95 : decode cX12_holds 95 = .ok (.iload_n 1, 1) := by decide +kernel
theorem dX12_holds_96 : decode cX12_holds 96 = .ok (.iaload, 1) := by decide +kernel
theorem dX12_holds_97 : decode cX12_holds 97 = .ok (.bipush 60, 2) := by decide +kernel
theorem dX12_holds_99 : decode cX12_holds 99 = .ok (.if_icmp .ne 21, 3) := by decide +kernel
theorem dX12_holds_102 : decode cX12_holds 102 = .ok (.iload_n 3, 1) := by decide +kernel
theorem dX12_holds_103 : decode cX12_holds 103 = .ok (.aload_n 0, 1) := by decide +kernel
theorem dX12_holds_104 : decode cX12_holds 104 = .ok (.getfield 73, 3) := by decide +kernel
theorem dX12_holds_107 : decode cX12_holds 107 = .ok (.iload_n 1, 1) := by decide +kernel
theorem dX12_holds_108 : decode cX12_holds 108 = .ok (.iaload, 1) := by decide +kernel
theorem dX12_holds_109 : decode cX12_holds 109 = .ok (.if_icmp .ge 7, 3) := by decide +kernel
theorem dX12_holds_112 : decode cX12_holds 112 = .ok (.iconst 1, 1) := by decide +kernel
theorem dX12_holds_113 : decode cX12_holds 113 = .ok (.goto 22, 3) := by decide +kernel
theorem dX12_holds_116 : decode cX12_holds 116 = .ok (.iconst 0, 1) := by decide +kernel
theorem dX12_holds_117 : decode cX12_holds 117 = .ok (.goto 18, 3) := by decide +kernel
theorem dX12_holds_120 : decode cX12_holds 120 = .ok (.iload_n 3, 1) := by decide +kernel
theorem dX12_holds_121 : decode cX12_holds 121 = .ok (.aload_n 0, 1) := by decide +kernel
theorem dX12_holds_122 : decode cX12_holds 122 = .ok (.getfield 73, 3) := by decide +kernel
theorem dX12_holds_125 : decode cX12_holds 125 = .ok (.iload_n 1, 1) := by decide +kernel
theorem dX12_holds_126 : decode cX12_holds 126 = .ok (.iaload, 1) := by decide +kernel
theorem dX12_holds_127 : decode cX12_holds 127 = .ok (.if_icmp .le 7, 3) := by decide +kernel
theorem dX12_holds_130 : decode cX12_holds 130 = .ok (.iconst 1, 1) := by decide +kernel
theorem dX12_holds_131 : decode cX12_holds 131 = .ok (.goto 4, 3) := by decide +kernel
theorem dX12_holds_134 : decode cX12_holds 134 = .ok (.iconst 0, 1) := by decide +kernel
theorem dX12_holds_135 : decode cX12_holds 135 = .ok (.ireturn, 1) := by decide +kernel
theorem dX12_draw_0 : decode cX12_draw 0 = .ok (.aload_n 0, 1) := by decide +kernel
theorem dX12_draw_1 : decode cX12_draw 1 = .ok (.getfield 51, 3) := by decide +kernel
theorem dX12_draw_4 : decode cX12_draw 4 = .ok (.invokestatic 195, 3) := by decide +kernel
theorem dX12_draw_7 : decode cX12_draw 7 = .ok (.ifCond .eq 12, 3) := by decide +kernel
theorem dX12_draw_10 : decode cX12_draw 10 = .ok (.aload_n 0, 1) := by decide +kernel
theorem dX12_draw_11 : decode cX12_draw 11 = .ok (.getfield 257, 3) := by decide +kernel
theorem dX12_draw_14 : decode cX12_draw 14 = .ok (.bipush 100, 2) := by decide +kernel
theorem dX12_draw_16 : decode cX12_draw 16 = .ok (.if_icmp .ne 5, 3) := by decide +kernel
theorem dX12_draw_19 : decode cX12_draw 19 = .ok (.iconst (-1), 1) := by decide +kernel
theorem dX12_draw_20 : decode cX12_draw 20 = .ok (.ireturn, 1) := by decide +kernel
theorem dX12_draw_21 : decode cX12_draw 21 = .ok (.lconst 0, 1) := by decide +kernel
theorem dX12_draw_22 : decode cX12_draw 22 = .ok (.lstore_n 1, 1) := by decide +kernel
theorem dX12_draw_23 : decode cX12_draw 23 = .ok (.lconst 0, 1) := by decide +kernel
theorem dX12_draw_24 : decode cX12_draw 24 = .ok (.lstore_n 3, 1) := by decide +kernel
theorem dX12_draw_25 : decode cX12_draw 25 = .ok (.iconst 0, 1) := by decide +kernel
theorem dX12_draw_26 : decode cX12_draw 26 = .ok (.istore 5, 2) := by decide +kernel
theorem dX12_draw_28 : decode cX12_draw 28 = .ok (.iload 5, 2) := by decide +kernel
theorem dX12_draw_30 : decode cX12_draw 30 = .ok (.aload_n 0, 1) := by decide +kernel
theorem dX12_draw_31 : decode cX12_draw 31 = .ok (.getfield 166, 3) := by decide +kernel
theorem dX12_draw_34 : decode cX12_draw 34 = .ok (.if_icmp .ge 71, 3) := by decide +kernel
theorem dX12_draw_37 : decode cX12_draw 37 = .ok (.aload_n 0, 1) := by decide +kernel
theorem dX12_draw_38 : decode cX12_draw 38 = .ok (.getfield 91, 3) := by decide +kernel
theorem dX12_draw_41 : decode cX12_draw 41 = .ok (.bipush 12, 2) := by decide +kernel
theorem dX12_draw_43 : decode cX12_draw 43 = .ok (.aload_n 0, 1) := by decide +kernel
theorem dX12_draw_44 : decode cX12_draw 44 = .ok (.getfield 257, 3) := by decide +kernel
theorem dX12_draw_47 : decode cX12_draw 47 = .ok (.imul, 1) := by decide +kernel
theorem dX12_draw_48 : decode cX12_draw 48 = .ok (.iload 5, 2) := by decide +kernel
theorem dX12_draw_50 : decode cX12_draw 50 = .ok (.iadd, 1) := by decide +kernel
theorem dX12_draw_51 : decode cX12_draw 51 = .ok (.aload_n 0, 1) := by decide +kernel
theorem dX12_draw_52 : decode cX12_draw 52 = .ok (.getfield 51, 3) := by decide +kernel
theorem dX12_draw_55 : decode cX12_draw 55 = .ok (.iload 5, 2) := by decide +kernel
theorem dX12_draw_57 : decode cX12_draw 57 = .ok (.iaload, 1) := by decide +kernel
theorem dX12_draw_58 : decode cX12_draw 58 = .ok (.iastore, 1) := by decide +kernel
theorem dX12_draw_59 : decode cX12_draw 59 = .ok (.lload_n 1, 1) := by decide +kernel
theorem dX12_draw_60 : decode cX12_draw 60 = .ok (.aload_n 0, 1) := by decide +kernel
theorem dX12_draw_61 : decode cX12_draw 61 = .ok (.getfield 51, 3) := by decide +kernel
theorem dX12_draw_64 : decode cX12_draw 64 = .ok (.iload 5, 2) := by decide +kernel
theorem dX12_draw_66 : decode cX12_draw 66 = .ok (.iaload, 1) := by decide +kernel
theorem dX12_draw_67 : decode cX12_draw 67 = .ok (.i2l, 1) := by decide +kernel
theorem dX12_draw_68 : decode cX12_draw 68 = .ok (.aload_n 0, 1) := by decide +kernel
theorem dX12_draw_69 : decode cX12_draw 69 = .ok (.getfield 19, 3) := by decide +kernel
theorem dX12_draw_72 : decode cX12_draw 72 = .ok (.iload 5, 2) := by decide +kernel
theorem dX12_draw_74 : decode cX12_draw 74 = .ok (.iaload, 1) := by decide +kernel
theorem dX12_draw_75 : decode cX12_draw 75 = .ok (.i2l, 1) := by decide +kernel
theorem dX12_draw_76 : decode cX12_draw 76 = .ok (.lmul, 1) := by decide +kernel
theorem dX12_draw_77 : decode cX12_draw 77 = .ok (.ladd, 1) := by decide +kernel
theorem dX12_draw_78 : decode cX12_draw 78 = .ok (.lstore_n 1, 1) := by decide +kernel
theorem dX12_draw_79 : decode cX12_draw 79 = .ok (.lload_n 3, 1) := by decide +kernel
theorem dX12_draw_80 : decode cX12_draw 80 = .ok (.aload_n 0, 1) := by decide +kernel
theorem dX12_draw_81 : decode cX12_draw 81 = .ok (.getfield 51, 3) := by decide +kernel
theorem dX12_draw_84 : decode cX12_draw 84 = .ok (.iload 5, 2) := by decide +kernel
theorem dX12_draw_86 : decode cX12_draw 86 = .ok (.iaload, 1) := by decide +kernel
theorem dX12_draw_87 : decode cX12_draw 87 = .ok (.i2l, 1) := by decide +kernel
theorem dX12_draw_88 : decode cX12_draw 88 = .ok (.aload_n 0, 1) := by decide +kernel
theorem dX12_draw_89 : decode cX12_draw 89 = .ok (.getfield 22, 3) := by decide +kernel
theorem dX12_draw_92 : decode cX12_draw 92 = .ok (.iload 5, 2) := by decide +kernel
theorem dX12_draw_94 : decode cX12_draw 94 = .ok (.iaload, 1) := by decide +kernel
theorem dX12_draw_95 : decode cX12_draw 95 = .ok (.i2l, 1) := by decide +kernel
theorem dX12_draw_96 : decode cX12_draw 96 = .ok (.lmul, 1) := by decide +kernel
theorem dX12_draw_97 : decode cX12_draw 97 = .ok (.ladd, 1) := by decide +kernel
theorem dX12_draw_98 : decode cX12_draw 98 = .ok (.lstore_n 3, 1) := by decide +kernel
theorem dX12_draw_99 : decode cX12_draw 99 = .ok (.iinc 5 1, 3) := by decide +kernel
theorem dX12_draw_102 : decode cX12_draw 102 = .ok (.goto (-74), 3) := by decide +kernel
theorem dX12_draw_105 : decode cX12_draw 105 = .ok (.aload_n 0, 1) := by decide +kernel
theorem dX12_draw_106 : decode cX12_draw 106 = .ok (.aload_n 0, 1) := by decide +kernel
theorem dX12_draw_107 : decode cX12_draw 107 = .ok (.getfield 199, 3) := by decide +kernel
theorem dX12_draw_110 : decode cX12_draw 110 = .ok (.aload_n 0, 1) := by decide +kernel
theorem dX12_draw_111 : decode cX12_draw 111 = .ok (.getfield 48, 3) := by decide +kernel
theorem dX12_draw_114 : decode cX12_draw 114 = .ok (.invokevirtual 202, 3) := by decide +kernel
theorem dX12_draw_117 : decode cX12_draw 117 = .ok (.iconst 0, 1) := by decide +kernel
theorem dX12_draw_118 : decode cX12_draw 118 = .ok (.istore 5, 2) := by decide +kernel
theorem dX12_draw_120 : decode cX12_draw 120 = .ok (.iload 5, 2) := by decide +kernel
theorem dX12_draw_122 : decode cX12_draw 122 = .ok (.bipush 8, 2) := by decide +kernel
theorem dX12_draw_124 : decode cX12_draw 124 = .ok (.if_icmp .ge 31, 3) := by decide +kernel
theorem dX12_draw_127 : decode cX12_draw 127 = .ok (.aload_n 0, 1) := by decide +kernel
theorem dX12_draw_128 : decode cX12_draw 128 = .ok (.getfield 94, 3) := by decide +kernel
theorem dX12_draw_131 : decode cX12_draw 131 = .ok (.bipush 8, 2) := by decide +kernel
theorem dX12_draw_133 : decode cX12_draw 133 = .ok (.aload_n 0, 1) := by decide +kernel
theorem dX12_draw_134 : decode cX12_draw 134 = .ok (.getfield 257, 3) := by decide +kernel
theorem dX12_draw_137 : decode cX12_draw 137 = .ok (.imul, 1) := by decide +kernel
theorem dX12_draw_138 : decode cX12_draw 138 = .ok (.iload 5, 2) := by decide +kernel
theorem dX12_draw_140 : decode cX12_draw 140 = .ok (.iadd, 1) := by decide +kernel
theorem dX12_draw_141 : decode cX12_draw 141 = .ok (.aload_n 0, 1) := by decide +kernel
theorem dX12_draw_142 : decode cX12_draw 142 = .ok (.getfield 38, 3) := by decide +kernel
theorem dX12_draw_145 : decode cX12_draw 145 = .ok (.iload 5, 2) := by decide +kernel
theorem dX12_draw_147 : decode cX12_draw 147 = .ok (.iaload, 1) := by decide +kernel
theorem dX12_draw_148 : decode cX12_draw 148 = .ok (.iastore, 1) := by decide +kernel
theorem dX12_draw_149 : decode cX12_draw 149 = .ok (.iinc 5 1, 3) := by decide +kernel
theorem dX12_draw_152 : decode cX12_draw 152 = .ok (.goto (-32), 3) := by decide +kernel
theorem dX12_draw_155 : decode cX12_draw 155 = .ok (.aload_n 0, 1) := by decide +kernel
theorem dX12_draw_156 : decode cX12_draw 156 = .ok (.getfield 97, 3) := by decide +kernel
theorem dX12_draw_159 : decode cX12_draw 159 = .ok (.aload_n 0, 1) := by decide +kernel
theorem dX12_draw_160 : decode cX12_draw 160 = .ok (.getfield 257, 3) := by decide +kernel
theorem dX12_draw_163 : decode cX12_draw 163 = .ok (.lload_n 1, 1) := by decide +kernel
theorem dX12_draw_164 : decode cX12_draw 164 = .ok (.ldc2_w 260, 3) := by decide +kernel
theorem dX12_draw_167 : decode cX12_draw 167 = .ok (.ldiv, 1) := by decide +kernel
theorem dX12_draw_168 : decode cX12_draw 168 = .ok (.l2i, 1) := by decide +kernel
theorem dX12_draw_169 : decode cX12_draw 169 = .ok (.iastore, 1) := by decide +kernel
theorem dX12_draw_170 : decode cX12_draw 170 = .ok (.aload_n 0, 1) := by decide +kernel
theorem dX12_draw_171 : decode cX12_draw 171 = .ok (.getfield 100, 3) := by decide +kernel
theorem dX12_draw_174 : decode cX12_draw 174 = .ok (.aload_n 0, 1) := by decide +kernel
theorem dX12_draw_175 : decode cX12_draw 175 = .ok (.getfield 257, 3) := by decide +kernel
theorem dX12_draw_178 : decode cX12_draw 178 = .ok (.lload_n 3, 1) := by decide +kernel
theorem dX12_draw_179 : decode cX12_draw 179 = .ok (.ldc2_w 262, 3) := by decide +kernel
theorem dX12_draw_182 : decode cX12_draw 182 = .ok (.ladd, 1) := by decide +kernel
theorem dX12_draw_183 : decode cX12_draw 183 = .ok (.ldc2_w 260, 3) := by decide +kernel
theorem dX12_draw_186 : decode cX12_draw 186 = .ok (.ldiv, 1) := by decide +kernel
theorem dX12_draw_187 : decode cX12_draw 187 = .ok (.l2i, 1) := by decide +kernel
theorem dX12_draw_188 : decode cX12_draw 188 = .ok (.iastore, 1) := by decide +kernel
theorem dX12_draw_189 : decode cX12_draw 189 = .ok (.aload_n 0, 1) := by decide +kernel
theorem dX12_draw_190 : decode cX12_draw 190 = .ok (.getfield 103, 3) := by decide +kernel
theorem dX12_draw_193 : decode cX12_draw 193 = .ok (.aload_n 0, 1) := by decide +kernel
theorem dX12_draw_194 : decode cX12_draw 194 = .ok (.getfield 257, 3) := by decide +kernel
theorem dX12_draw_197 : decode cX12_draw 197 = .ok (.aload_n 0, 1) := by decide +kernel
theorem dX12_draw_198 : decode cX12_draw 198 = .ok (.getfield 224, 3) := by decide +kernel
theorem dX12_draw_201 : decode cX12_draw 201 = .ok (.ifCond .ne 7, 3) := by decide +kernel
theorem dX12_draw_204 : decode cX12_draw 204 = .ok (.iconst 0, 1) := by decide +kernel
theorem dX12_draw_205 : decode cX12_draw 205 = .ok (.goto 17, 3) := by decide +kernel
theorem dX12_draw_208 : decode cX12_draw 208 = .ok (.aload_n 0, 1) := by decide +kernel
theorem dX12_draw_209 : decode cX12_draw 209 = .ok (.getfield 224, 3) := by decide +kernel
theorem dX12_draw_212 : decode cX12_draw 212 = .ok (.bipush 10, 2) := by decide +kernel
theorem dX12_draw_214 : decode cX12_draw 214 = .ok (.if_icmp .gt 7, 3) := by decide +kernel
theorem dX12_draw_217 : decode cX12_draw 217 = .ok (.iconst 1, 1) := by decide +kernel
theorem dX12_draw_218 : decode cX12_draw 218 = .ok (.goto 4, 3) := by decide +kernel
theorem dX12_draw_221 : decode cX12_draw 221 = .ok (.iconst 2, 1) := by decide +kernel
theorem dX12_draw_222 : decode cX12_draw 222 = .ok (.iastore, 1) := by decide +kernel
theorem dX12_draw_223 : decode cX12_draw 223 = .ok (.aload_n 0, 1) := by decide +kernel
theorem dX12_draw_224 : decode cX12_draw 224 = .ok (.getfield 106, 3) := by decide +kernel
theorem dX12_draw_227 : decode cX12_draw 227 = .ok (.aload_n 0, 1) := by decide +kernel
theorem dX12_draw_228 : decode cX12_draw 228 = .ok (.getfield 257, 3) := by decide +kernel
theorem dX12_draw_231 : decode cX12_draw 231 = .ok (.iconst 0, 1) := by decide +kernel
theorem dX12_draw_232 : decode cX12_draw 232 = .ok (.iastore, 1) := by decide +kernel
theorem dX12_draw_233 : decode cX12_draw 233 = .ok (.aload_n 0, 1) := by decide +kernel
theorem dX12_draw_234 : decode cX12_draw 234 = .ok (.getfield 109, 3) := by decide +kernel
theorem dX12_draw_237 : decode cX12_draw 237 = .ok (.aload_n 0, 1) := by decide +kernel
theorem dX12_draw_238 : decode cX12_draw 238 = .ok (.getfield 257, 3) := by decide +kernel
theorem dX12_draw_241 : decode cX12_draw 241 = .ok (.aload_n 0, 1) := by decide +kernel
theorem dX12_draw_242 : decode cX12_draw 242 = .ok (.getfield 191, 3) := by decide +kernel
theorem dX12_draw_245 : decode cX12_draw 245 = .ok (.iastore, 1) := by decide +kernel
theorem dX12_draw_246 : decode cX12_draw 246 = .ok (.aload_n 0, 1) := by decide +kernel
theorem dX12_draw_247 : decode cX12_draw 247 = .ok (.dup, 1) := by decide +kernel
theorem dX12_draw_248 : decode cX12_draw 248 = .ok (.getfield 264, 3) := by decide +kernel
theorem dX12_draw_251 : decode cX12_draw 251 = .ok (.aload_n 0, 1) := by decide +kernel
theorem dX12_draw_252 : decode cX12_draw 252 = .ok (.getfield 45, 3) := by decide +kernel
theorem dX12_draw_255 : decode cX12_draw 255 = .ok (.invokestatic 195, 3) := by decide +kernel
theorem dX12_draw_258 : decode cX12_draw 258 = .ok (.iadd, 1) := by decide +kernel
theorem dX12_draw_259 : decode cX12_draw 259 = .ok (.putfield 264, 3) := by decide +kernel
theorem dX12_draw_262 : decode cX12_draw 262 = .ok (.iconst 0, 1) := by decide +kernel
theorem dX12_draw_263 : decode cX12_draw 263 = .ok (.istore 5, 2) := by decide +kernel
theorem dX12_draw_265 : decode cX12_draw 265 = .ok (.iload 5, 2) := by decide +kernel
theorem dX12_draw_267 : decode cX12_draw 267 = .ok (.bipush 12, 2) := by decide +kernel
theorem dX12_draw_269 : decode cX12_draw 269 = .ok (.if_icmp .ge 25, 3) := by decide +kernel
theorem dX12_draw_272 : decode cX12_draw 272 = .ok (.aload_n 0, 1) := by decide +kernel
theorem dX12_draw_273 : decode cX12_draw 273 = .ok (.getfield 45, 3) := by decide +kernel
theorem dX12_draw_276 : decode cX12_draw 276 = .ok (.iload 5, 2) := by decide +kernel
theorem dX12_draw_278 : decode cX12_draw 278 = .ok (.iconst 0, 1) := by decide +kernel
theorem dX12_draw_279 : decode cX12_draw 279 = .ok (.iastore, 1) := by decide +kernel
theorem dX12_draw_280 : decode cX12_draw 280 = .ok (.aload_n 0, 1) := by decide +kernel
theorem dX12_draw_281 : decode cX12_draw 281 = .ok (.getfield 51, 3) := by decide +kernel
theorem dX12_draw_284 : decode cX12_draw 284 = .ok (.iload 5, 2) := by decide +kernel
theorem dX12_draw_286 : decode cX12_draw 286 = .ok (.iconst 0, 1) := by decide +kernel
theorem dX12_draw_287 : decode cX12_draw 287 = .ok (.iastore, 1) := by decide +kernel
theorem dX12_draw_288 : decode cX12_draw 288 = .ok (.iinc 5 1, 3) := by decide +kernel
theorem dX12_draw_291 : decode cX12_draw 291 = .ok (.goto (-26), 3) := by decide +kernel
theorem dX12_draw_294 : decode cX12_draw 294 = .ok (.iconst 0, 1) := by decide +kernel
theorem dX12_draw_295 : decode cX12_draw 295 = .ok (.istore 5, 2) := by decide +kernel
theorem dX12_draw_297 : decode cX12_draw 297 = .ok (.iload 5, 2) := by decide +kernel
theorem dX12_draw_299 : decode cX12_draw 299 = .ok (.bipush 8, 2) := by decide +kernel
theorem dX12_draw_301 : decode cX12_draw 301 = .ok (.if_icmp .ge 17, 3) := by decide +kernel
theorem dX12_draw_304 : decode cX12_draw 304 = .ok (.aload_n 0, 1) := by decide +kernel
theorem dX12_draw_305 : decode cX12_draw 305 = .ok (.getfield 48, 3) := by decide +kernel
theorem dX12_draw_308 : decode cX12_draw 308 = .ok (.iload 5, 2) := by decide +kernel
theorem dX12_draw_310 : decode cX12_draw 310 = .ok (.iconst 0, 1) := by decide +kernel
theorem dX12_draw_311 : decode cX12_draw 311 = .ok (.iastore, 1) := by decide +kernel
theorem dX12_draw_312 : decode cX12_draw 312 = .ok (.iinc 5 1, 3) := by decide +kernel
theorem dX12_draw_315 : decode cX12_draw 315 = .ok (.goto (-18), 3) := by decide +kernel
theorem dX12_draw_318 : decode cX12_draw 318 = .ok (.aload_n 0, 1) := by decide +kernel
theorem dX12_draw_319 : decode cX12_draw 319 = .ok (.iconst 0, 1) := by decide +kernel
theorem dX12_draw_320 : decode cX12_draw 320 = .ok (.putfield 199, 3) := by decide +kernel
theorem dX12_draw_323 : decode cX12_draw 323 = .ok (.aload_n 0, 1) := by decide +kernel
theorem dX12_draw_324 : decode cX12_draw 324 = .ok (.iconst 0, 1) := by decide +kernel
theorem dX12_draw_325 : decode cX12_draw 325 = .ok (.putfield 209, 3) := by decide +kernel
theorem dX12_draw_328 : decode cX12_draw 328 = .ok (.aload_n 0, 1) := by decide +kernel
theorem dX12_draw_329 : decode cX12_draw 329 = .ok (.iconst 0, 1) := by decide +kernel
theorem dX12_draw_330 : decode cX12_draw 330 = .ok (.putfield 206, 3) := by decide +kernel
theorem dX12_draw_333 : decode cX12_draw 333 = .ok (.aload_n 0, 1) := by decide +kernel
theorem dX12_draw_334 : decode cX12_draw 334 = .ok (.iconst 0, 1) := by decide +kernel
theorem dX12_draw_335 : decode cX12_draw 335 = .ok (.putfield 212, 3) := by decide +kernel
theorem dX12_draw_338 : decode cX12_draw 338 = .ok (.aload_n 0, 1) := by decide +kernel
theorem dX12_draw_339 : decode cX12_draw 339 = .ok (.iconst 0, 1) := by decide +kernel
theorem dX12_draw_340 : decode cX12_draw 340 = .ok (.putfield 221, 3) := by decide +kernel
theorem dX12_draw_343 : decode cX12_draw 343 = .ok (.aload_n 0, 1) := by decide +kernel
theorem dX12_draw_344 : decode cX12_draw 344 = .ok (.iconst 0, 1) := by decide +kernel
theorem dX12_draw_345 : decode cX12_draw 345 = .ok (.putfield 224, 3) := by decide +kernel
theorem dX12_draw_348 : decode cX12_draw 348 = .ok (.aload_n 0, 1) := by decide +kernel
theorem dX12_draw_349 : decode cX12_draw 349 = .ok (.iconst (-1), 1) := by decide +kernel
theorem dX12_draw_350 : decode cX12_draw 350 = .ok (.putfield 54, 3) := by decide +kernel
theorem dX12_draw_353 : decode cX12_draw 353 = .ok (.aload_n 0, 1) := by decide +kernel
theorem dX12_draw_354 : decode cX12_draw 354 = .ok (.dup, 1) := by decide +kernel
theorem dX12_draw_355 : decode cX12_draw 355 = .ok (.getfield 257, 3) := by decide +kernel
theorem dX12_draw_358 : decode cX12_draw 358 = .ok (.iconst 1, 1) := by decide +kernel
theorem dX12_draw_359 : decode cX12_draw 359 = .ok (.iadd, 1) := by decide +kernel
theorem dX12_draw_360 : decode cX12_draw 360 = .ok (.putfield 257, 3) := by decide +kernel
theorem dX12_draw_363 : decode cX12_draw 363 = .ok (.aload_n 0, 1) := by decide +kernel
theorem dX12_draw_364 : decode cX12_draw 364 = .ok (.getfield 257, 3) := by decide +kernel
theorem dX12_draw_367 : decode cX12_draw 367 = .ok (.iconst 1, 1) := by decide +kernel
theorem dX12_draw_368 : decode cX12_draw 368 = .ok (.isub, 1) := by decide +kernel
theorem dX12_draw_369 : decode cX12_draw 369 = .ok (.ireturn, 1) := by decide +kernel
theorem dX12_isBar_0 : decode cX12_isBar 0 = .ok (.iload_n 1, 1) := by decide +kernel
theorem dX12_isBar_1 : decode cX12_isBar 1 = .ok (.iconst 0, 1) := by decide +kernel
theorem dX12_isBar_2 : decode cX12_isBar 2 = .ok (.aload_n 0, 1) := by decide +kernel
theorem dX12_isBar_3 : decode cX12_isBar 3 = .ok (.getfield 257, 3) := by decide +kernel
theorem dX12_isBar_6 : decode cX12_isBar 6 = .ok (.iconst 1, 1) := by decide +kernel
theorem dX12_isBar_7 : decode cX12_isBar 7 = .ok (.isub, 1) := by decide +kernel
theorem dX12_isBar_8 : decode cX12_isBar 8 = .ok (.invokestatic 169, 3) := by decide +kernel
theorem dX12_isBar_11 : decode cX12_isBar 11 = .ok (.ireturn, 1) := by decide +kernel
theorem dX12_sortOf_0 : decode cX12_sortOf 0 = .ok (.iconst 0, 1) := by decide +kernel
theorem dX12_sortOf_1 : decode cX12_sortOf 1 = .ok (.aload_n 0, 1) := by decide +kernel
theorem dX12_sortOf_2 : decode cX12_sortOf 2 = .ok (.getfield 103, 3) := by decide +kernel
theorem dX12_sortOf_5 : decode cX12_sortOf 5 = .ok (.iload_n 1, 1) := by decide +kernel
theorem dX12_sortOf_6 : decode cX12_sortOf 6 = .ok (.iaload, 1) := by decide +kernel
theorem dX12_sortOf_7 : decode cX12_sortOf 7 = .ok (.aload_n 0, 1) := by decide +kernel
theorem dX12_sortOf_8 : decode cX12_sortOf 8 = .ok (.getfield 106, 3) := by decide +kernel
theorem dX12_sortOf_11 : decode cX12_sortOf 11 = .ok (.iload_n 1, 1) := by decide +kernel
theorem dX12_sortOf_12 : decode cX12_sortOf 12 = .ok (.iaload, 1) := by decide +kernel
theorem dX12_sortOf_13 : decode cX12_sortOf 13 = .ok (.iconst 2, 1) := by decide +kernel
theorem dX12_sortOf_14 : decode cX12_sortOf 14 = .ok (.idiv, 1) := by decide +kernel
theorem dX12_sortOf_15 : decode cX12_sortOf 15 = .ok (.isub, 1) := by decide +kernel
theorem dX12_sortOf_16 : decode cX12_sortOf 16 = .ok (.invokestatic 182, 3) := by decide +kernel
theorem dX12_sortOf_19 : decode cX12_sortOf 19 = .ok (.ireturn, 1) := by decide +kernel
theorem dX12_forge_0 : decode cX12_forge 0 = .ok (.aload_n 0, 1) := by decide +kernel
theorem dX12_forge_1 : decode cX12_forge 1 = .ok (.iload_n 1, 1) := by decide +kernel
theorem dX12_forge_2 : decode cX12_forge 2 = .ok (.invokevirtual 267, 3) := by decide +kernel
theorem dX12_forge_5 : decode cX12_forge 5 = .ok (.ifCond .eq 26, 3) := by decide +kernel
theorem dX12_forge_8 : decode cX12_forge 8 = .ok (.iload_n 2, 1) := by decide +kernel
theorem dX12_forge_9 : decode cX12_forge 9 = .ok (.iconst 1, 1) := by decide +kernel
theorem dX12_forge_10 : decode cX12_forge 10 = .ok (.bipush 9, 2) := by decide +kernel
theorem dX12_forge_12 : decode cX12_forge 12 = .ok (.invokestatic 169, 3) := by decide +kernel
theorem dX12_forge_15 : decode cX12_forge 15 = .ok (.ifCond .eq 16, 3) := by decide +kernel
theorem dX12_forge_18 : decode cX12_forge 18 = .ok (.aload_n 0, 1) := by decide +kernel
theorem dX12_forge_19 : decode cX12_forge 19 = .ok (.getfield 106, 3) := by decide +kernel
theorem dX12_forge_22 : decode cX12_forge 22 = .ok (.iload_n 1, 1) := by decide +kernel
theorem dX12_forge_23 : decode cX12_forge 23 = .ok (.iaload, 1) := by decide +kernel
theorem dX12_forge_24 : decode cX12_forge 24 = .ok (.iload_n 2, 1) := by decide +kernel
theorem dX12_forge_25 : decode cX12_forge 25 = .ok (.iadd, 1) := by decide +kernel
theorem dX12_forge_26 : decode cX12_forge 26 = .ok (.bipush 9, 2) := by decide +kernel
theorem dX12_forge_28 : decode cX12_forge 28 = .ok (.if_icmp .le 5, 3) := by decide +kernel
theorem dX12_forge_31 : decode cX12_forge 31 = .ok (.iconst (-1), 1) := by decide +kernel
theorem dX12_forge_32 : decode cX12_forge 32 = .ok (.ireturn, 1) := by decide +kernel
theorem dX12_forge_33 : decode cX12_forge 33 = .ok (.iconst 0, 1) := by decide +kernel
theorem dX12_forge_34 : decode cX12_forge 34 = .ok (.istore_n 3, 1) := by decide +kernel
theorem dX12_forge_35 : decode cX12_forge 35 = .ok (.iload_n 3, 1) := by decide +kernel
theorem dX12_forge_36 : decode cX12_forge 36 = .ok (.iload_n 2, 1) := by decide +kernel
theorem dX12_forge_37 : decode cX12_forge 37 = .ok (.if_icmp .ge 57, 3) := by decide +kernel
theorem dX12_forge_40 : decode cX12_forge 40 = .ok (.aload_n 0, 1) := by decide +kernel
theorem dX12_forge_41 : decode cX12_forge 41 = .ok (.getfield 97, 3) := by decide +kernel
theorem dX12_forge_44 : decode cX12_forge 44 = .ok (.iload_n 1, 1) := by decide +kernel
theorem dX12_forge_45 : decode cX12_forge 45 = .ok (.ldc2_w 270, 3) := by decide +kernel
theorem dX12_forge_48 : decode cX12_forge 48 = .ok (.aload_n 0, 1) := by decide +kernel
theorem dX12_forge_49 : decode cX12_forge 49 = .ok (.getfield 97, 3) := by decide +kernel
theorem dX12_forge_52 : decode cX12_forge 52 = .ok (.iload_n 1, 1) := by decide +kernel
theorem dX12_forge_53 : decode cX12_forge 53 = .ok (.iaload, 1) := by decide +kernel
theorem dX12_forge_54 : decode cX12_forge 54 = .ok (.i2l, 1) := by decide +kernel
theorem dX12_forge_55 : decode cX12_forge 55 = .ok (.lmul, 1) := by decide +kernel
theorem dX12_forge_56 : decode cX12_forge 56 = .ok (.ldc2_w 272, 3) := by decide +kernel
theorem dX12_forge_59 : decode cX12_forge 59 = .ok (.ldiv, 1) := by decide +kernel
theorem dX12_forge_60 : decode cX12_forge 60 = .ok (.l2i, 1) := by decide +kernel
theorem dX12_forge_61 : decode cX12_forge 61 = .ok (.iastore, 1) := by decide +kernel
theorem dX12_forge_62 : decode cX12_forge 62 = .ok (.aload_n 0, 1) := by decide +kernel
theorem dX12_forge_63 : decode cX12_forge 63 = .ok (.getfield 100, 3) := by decide +kernel
theorem dX12_forge_66 : decode cX12_forge 66 = .ok (.iload_n 1, 1) := by decide +kernel
theorem dX12_forge_67 : decode cX12_forge 67 = .ok (.ldc2_w 274, 3) := by decide +kernel
theorem dX12_forge_70 : decode cX12_forge 70 = .ok (.aload_n 0, 1) := by decide +kernel
theorem dX12_forge_71 : decode cX12_forge 71 = .ok (.getfield 100, 3) := by decide +kernel
theorem dX12_forge_74 : decode cX12_forge 74 = .ok (.iload_n 1, 1) := by decide +kernel
theorem dX12_forge_75 : decode cX12_forge 75 = .ok (.iaload, 1) := by decide +kernel
theorem dX12_forge_76 : decode cX12_forge 76 = .ok (.i2l, 1) := by decide +kernel
theorem dX12_forge_77 : decode cX12_forge 77 = .ok (.lmul, 1) := by decide +kernel
theorem dX12_forge_78 : decode cX12_forge 78 = .ok (.ldc2_w 274, 3) := by decide +kernel
theorem dX12_forge_81 : decode cX12_forge 81 = .ok (.ladd, 1) := by decide +kernel
theorem dX12_forge_82 : decode cX12_forge 82 = .ok (.ldc2_w 272, 3) := by decide +kernel
theorem dX12_forge_85 : decode cX12_forge 85 = .ok (.ldiv, 1) := by decide +kernel
theorem dX12_forge_86 : decode cX12_forge 86 = .ok (.l2i, 1) := by decide +kernel
theorem dX12_forge_87 : decode cX12_forge 87 = .ok (.iastore, 1) := by decide +kernel
theorem dX12_forge_88 : decode cX12_forge 88 = .ok (.iinc 3 1, 3) := by decide +kernel
theorem dX12_forge_91 : decode cX12_forge 91 = .ok (.goto (-56), 3) := by decide +kernel
theorem dX12_forge_94 : decode cX12_forge 94 = .ok (.aload_n 0, 1) := by decide +kernel
theorem dX12_forge_95 : decode cX12_forge 95 = .ok (.getfield 106, 3) := by decide +kernel
theorem dX12_forge_98 : decode cX12_forge 98 = .ok (.iload_n 1, 1) := by decide +kernel
theorem dX12_forge_99 : decode cX12_forge 99 = .ok (.dup2, 1) := by decide +kernel
theorem dX12_forge_100 : decode cX12_forge 100 = .ok (.iaload, 1) := by decide +kernel
theorem dX12_forge_101 : decode cX12_forge 101 = .ok (.iload_n 2, 1) := by decide +kernel
theorem dX12_forge_102 : decode cX12_forge 102 = .ok (.iadd, 1) := by decide +kernel
theorem dX12_forge_103 : decode cX12_forge 103 = .ok (.iastore, 1) := by decide +kernel
theorem dX12_forge_104 : decode cX12_forge 104 = .ok (.aload_n 0, 1) := by decide +kernel
theorem dX12_forge_105 : decode cX12_forge 105 = .ok (.iload_n 1, 1) := by decide +kernel
theorem dX12_forge_106 : decode cX12_forge 106 = .ok (.invokevirtual 276, 3) := by decide +kernel
theorem dX12_forge_109 : decode cX12_forge 109 = .ok (.ireturn, 1) := by decide +kernel
theorem dX12_bar_0 : decode cX12_bar 0 = .ok (.aload_n 0, 1) := by decide +kernel
theorem dX12_bar_1 : decode cX12_bar 1 = .ok (.iload_n 1, 1) := by decide +kernel
theorem dX12_bar_2 : decode cX12_bar 2 = .ok (.invokevirtual 267, 3) := by decide +kernel
theorem dX12_bar_5 : decode cX12_bar 5 = .ok (.ifCond .ne 5, 3) := by decide +kernel
theorem dX12_bar_8 : decode cX12_bar 8 = .ok (.iconst (-1), 1) := by decide +kernel
theorem dX12_bar_9 : decode cX12_bar 9 = .ok (.ireturn, 1) := by decide +kernel
theorem dX12_bar_10 : decode cX12_bar 10 = .ok (.iconst 0, 1) := by decide +kernel
theorem dX12_bar_11 : decode cX12_bar 11 = .ok (.istore_n 3, 1) := by decide +kernel
theorem dX12_bar_12 : decode cX12_bar 12 = .ok (.iconst 0, 1) := by decide +kernel
theorem dX12_bar_13 : decode cX12_bar 13 = .ok (.istore 4, 2) := by decide +kernel
theorem dX12_bar_15 : decode cX12_bar 15 = .ok (.iconst 0, 1) := by decide +kernel
theorem dX12_bar_16 : decode cX12_bar 16 = .ok (.istore 5, 2) := by decide +kernel
theorem dX12_bar_18 : decode cX12_bar 18 = .ok (.iload 5, 2) := by decide +kernel
theorem dX12_bar_20 : decode cX12_bar 20 = .ok (.bipush 12, 2) := by decide +kernel
theorem dX12_bar_22 : decode cX12_bar 22 = .ok (.if_icmp .ge 24, 3) := by decide +kernel
theorem dX12_bar_25 : decode cX12_bar 25 = .ok (.iload_n 3, 1) := by decide +kernel
theorem dX12_bar_26 : decode cX12_bar 26 = .ok (.aload_n 0, 1) := by decide +kernel
theorem dX12_bar_27 : decode cX12_bar 27 = .ok (.getfield 91, 3) := by decide +kernel
theorem dX12_bar_30 : decode cX12_bar 30 = .ok (.bipush 12, 2) := by decide +kernel
theorem dX12_bar_32 : decode cX12_bar 32 = .ok (.iload_n 1, 1) := by decide +kernel
theorem dX12_bar_33 : decode cX12_bar 33 = .ok (.imul, 1) := by decide +kernel
theorem dX12_bar_34 : decode cX12_bar 34 = .ok (.iload 5, 2) := by decide +kernel
theorem dX12_bar_36 : decode cX12_bar 36 = .ok (.iadd, 1) := by decide +kernel
theorem dX12_bar_37 : decode cX12_bar 37 = .ok (.iaload, 1) := by decide +kernel
theorem dX12_bar_38 : decode cX12_bar 38 = .ok (.iadd, 1) := by decide +kernel
theorem dX12_bar_39 : decode cX12_bar 39 = .ok (.istore_n 3, 1) := by decide +kernel
theorem dX12_bar_40 : decode cX12_bar 40 = .ok (.iinc 5 1, 3) := by decide +kernel
theorem dX12_bar_43 : decode cX12_bar 43 = .ok (.goto (-25), 3) := by decide +kernel
theorem dX12_bar_46 : decode cX12_bar 46 = .ok (.iconst 0, 1) := by decide +kernel
theorem dX12_bar_47 : decode cX12_bar 47 = .ok (.istore 5, 2) := by decide +kernel
theorem dX12_bar_49 : decode cX12_bar 49 = .ok (.iload 5, 2) := by decide +kernel
theorem dX12_bar_51 : decode cX12_bar 51 = .ok (.bipush 8, 2) := by decide +kernel
theorem dX12_bar_53 : decode cX12_bar 53 = .ok (.if_icmp .ge 26, 3) := by decide +kernel
theorem dX12_bar_56 : decode cX12_bar 56 = .ok (.iload 4, 2) := by decide +kernel
theorem dX12_bar_58 : decode cX12_bar 58 = .ok (.aload_n 0, 1) := by decide +kernel
theorem dX12_bar_59 : decode cX12_bar 59 = .ok (.getfield 94, 3) := by decide +kernel
theorem dX12_bar_62 : decode cX12_bar 62 = .ok (.bipush 8, 2) := by decide +kernel
theorem dX12_bar_64 : decode cX12_bar 64 = .ok (.iload_n 1, 1) := by decide +kernel
theorem dX12_bar_65 : decode cX12_bar 65 = .ok (.imul, 1) := by decide +kernel
theorem dX12_bar_66 : decode cX12_bar 66 = .ok (.iload 5, 2) := by decide +kernel
theorem dX12_bar_68 : decode cX12_bar 68 = .ok (.iadd, 1) := by decide +kernel
theorem dX12_bar_69 : decode cX12_bar 69 = .ok (.iaload, 1) := by decide +kernel
theorem dX12_bar_70 : decode cX12_bar 70 = .ok (.iadd, 1) := by decide +kernel
theorem dX12_bar_71 : decode cX12_bar 71 = .ok (.istore 4, 2) := by decide +kernel
theorem dX12_bar_73 : decode cX12_bar 73 = .ok (.iinc 5 1, 3) := by decide +kernel
theorem dX12_bar_76 : decode cX12_bar 76 = .ok (.goto (-27), 3) := by decide +kernel
theorem dX12_bar_79 : decode cX12_bar 79 = .ok (.iload_n 2, 1) := by decide +kernel
theorem dX12_bar_80 : decode cX12_bar 80 = .ok (.tableswitch 83 0 6 #[44, 51, 58, 64, 71, 78, 80], 44) := by decide +kernel
theorem dX12_bar_124 : decode cX12_bar 124 = .ok (.aload_n 0, 1) := by decide +kernel
theorem dX12_bar_125 : decode cX12_bar 125 = .ok (.getfield 97, 3) := by decide +kernel
theorem dX12_bar_128 : decode cX12_bar 128 = .ok (.iload_n 1, 1) := by decide +kernel
theorem dX12_bar_129 : decode cX12_bar 129 = .ok (.iaload, 1) := by decide +kernel
theorem dX12_bar_130 : decode cX12_bar 130 = .ok (.ireturn, 1) := by decide +kernel
theorem dX12_bar_131 : decode cX12_bar 131 = .ok (.aload_n 0, 1) := by decide +kernel
theorem dX12_bar_132 : decode cX12_bar 132 = .ok (.getfield 100, 3) := by decide +kernel
theorem dX12_bar_135 : decode cX12_bar 135 = .ok (.iload_n 1, 1) := by decide +kernel
theorem dX12_bar_136 : decode cX12_bar 136 = .ok (.iaload, 1) := by decide +kernel
theorem dX12_bar_137 : decode cX12_bar 137 = .ok (.ireturn, 1) := by decide +kernel
theorem dX12_bar_138 : decode cX12_bar 138 = .ok (.aload_n 0, 1) := by decide +kernel
theorem dX12_bar_139 : decode cX12_bar 139 = .ok (.iload_n 1, 1) := by decide +kernel
theorem dX12_bar_140 : decode cX12_bar 140 = .ok (.invokevirtual 276, 3) := by decide +kernel
theorem dX12_bar_143 : decode cX12_bar 143 = .ok (.ireturn, 1) := by decide +kernel
theorem dX12_bar_144 : decode cX12_bar 144 = .ok (.aload_n 0, 1) := by decide +kernel
theorem dX12_bar_145 : decode cX12_bar 145 = .ok (.getfield 106, 3) := by decide +kernel
theorem dX12_bar_148 : decode cX12_bar 148 = .ok (.iload_n 1, 1) := by decide +kernel
theorem dX12_bar_149 : decode cX12_bar 149 = .ok (.iaload, 1) := by decide +kernel
theorem dX12_bar_150 : decode cX12_bar 150 = .ok (.ireturn, 1) := by decide +kernel
theorem dX12_bar_151 : decode cX12_bar 151 = .ok (.aload_n 0, 1) := by decide +kernel
theorem dX12_bar_152 : decode cX12_bar 152 = .ok (.getfield 109, 3) := by decide +kernel
theorem dX12_bar_155 : decode cX12_bar 155 = .ok (.iload_n 1, 1) := by decide +kernel
theorem dX12_bar_156 : decode cX12_bar 156 = .ok (.iaload, 1) := by decide +kernel
theorem dX12_bar_157 : decode cX12_bar 157 = .ok (.ireturn, 1) := by decide +kernel
theorem dX12_bar_158 : decode cX12_bar 158 = .ok (.iload_n 3, 1) := by decide +kernel
theorem dX12_bar_159 : decode cX12_bar 159 = .ok (.ireturn, 1) := by decide +kernel
theorem dX12_bar_160 : decode cX12_bar 160 = .ok (.iload 4, 2) := by decide +kernel
theorem dX12_bar_162 : decode cX12_bar 162 = .ok (.ireturn, 1) := by decide +kernel
theorem dX12_bar_163 : decode cX12_bar 163 = .ok (.iconst (-1), 1) := by decide +kernel
theorem dX12_bar_164 : decode cX12_bar 164 = .ok (.ireturn, 1) := by decide +kernel
theorem dX12_part_0 : decode cX12_part 0 = .ok (.aload_n 0, 1) := by decide +kernel
theorem dX12_part_1 : decode cX12_part 1 = .ok (.iload_n 1, 1) := by decide +kernel
theorem dX12_part_2 : decode cX12_part 2 = .ok (.invokevirtual 267, 3) := by decide +kernel
theorem dX12_part_5 : decode cX12_part 5 = .ok (.ifCond .eq 25, 3) := by decide +kernel
theorem dX12_part_8 : decode cX12_part 8 = .ok (.aload_n 0, 1) := by decide +kernel
theorem dX12_part_9 : decode cX12_part 9 = .ok (.iload_n 2, 1) := by decide +kernel
theorem dX12_part_10 : decode cX12_part 10 = .ok (.invokevirtual 178, 3) := by decide +kernel
theorem dX12_part_13 : decode cX12_part 13 = .ok (.ifCond .eq 17, 3) := by decide +kernel
theorem dX12_part_16 : decode cX12_part 16 = .ok (.aload_n 0, 1) := by decide +kernel
theorem dX12_part_17 : decode cX12_part 17 = .ok (.getfield 91, 3) := by decide +kernel
theorem dX12_part_20 : decode cX12_part 20 = .ok (.bipush 12, 2) := by decide +kernel
theorem dX12_part_22 : decode cX12_part 22 = .ok (.iload_n 1, 1) := by decide +kernel
theorem dX12_part_23 : decode cX12_part 23 = .ok (.imul, 1) := by decide +kernel
theorem dX12_part_24 : decode cX12_part 24 = .ok (.iload_n 2, 1) := by decide +kernel
theorem dX12_part_25 : decode cX12_part 25 = .ok (.iadd, 1) := by decide +kernel
theorem dX12_part_26 : decode cX12_part 26 = .ok (.iaload, 1) := by decide +kernel
theorem dX12_part_27 : decode cX12_part 27 = .ok (.goto 4, 3) := by decide +kernel
theorem dX12_part_30 : decode cX12_part 30 = .ok (.iconst 0, 1) := by decide +kernel
theorem dX12_part_31 : decode cX12_part 31 = .ok (.ireturn, 1) := by decide +kernel
theorem dX12_burnt_0 : decode cX12_burnt 0 = .ok (.aload_n 0, 1) := by decide +kernel
theorem dX12_burnt_1 : decode cX12_burnt 1 = .ok (.iload_n 1, 1) := by decide +kernel
theorem dX12_burnt_2 : decode cX12_burnt 2 = .ok (.invokevirtual 267, 3) := by decide +kernel
theorem dX12_burnt_5 : decode cX12_burnt 5 = .ok (.ifCond .eq 27, 3) := by decide +kernel
theorem dX12_burnt_8 : decode cX12_burnt 8 = .ok (.iload_n 2, 1) := by decide +kernel
theorem dX12_burnt_9 : decode cX12_burnt 9 = .ok (.iconst 0, 1) := by decide +kernel
theorem dX12_burnt_10 : decode cX12_burnt 10 = .ok (.bipush 7, 2) := by decide +kernel
theorem dX12_burnt_12 : decode cX12_burnt 12 = .ok (.invokestatic 169, 3) := by decide +kernel
theorem dX12_burnt_15 : decode cX12_burnt 15 = .ok (.ifCond .eq 17, 3) := by decide +kernel
theorem dX12_burnt_18 : decode cX12_burnt 18 = .ok (.aload_n 0, 1) := by decide +kernel
theorem dX12_burnt_19 : decode cX12_burnt 19 = .ok (.getfield 94, 3) := by decide +kernel
theorem dX12_burnt_22 : decode cX12_burnt 22 = .ok (.bipush 8, 2) := by decide +kernel
theorem dX12_burnt_24 : decode cX12_burnt 24 = .ok (.iload_n 1, 1) := by decide +kernel
theorem dX12_burnt_25 : decode cX12_burnt 25 = .ok (.imul, 1) := by decide +kernel
theorem dX12_burnt_26 : decode cX12_burnt 26 = .ok (.iload_n 2, 1) := by decide +kernel
theorem dX12_burnt_27 : decode cX12_burnt 27 = .ok (.iadd, 1) := by decide +kernel
theorem dX12_burnt_28 : decode cX12_burnt 28 = .ok (.iaload, 1) := by decide +kernel
theorem dX12_burnt_29 : decode cX12_burnt 29 = .ok (.goto 4, 3) := by decide +kernel
theorem dX12_burnt_32 : decode cX12_burnt 32 = .ok (.iconst 0, 1) := by decide +kernel
theorem dX12_burnt_33 : decode cX12_burnt 33 = .ok (.ireturn, 1) := by decide +kernel
theorem dX12_right_0 : decode cX12_right 0 = .ok (.aload_n 0, 1) := by decide +kernel
theorem dX12_right_1 : decode cX12_right 1 = .ok (.iload_n 1, 1) := by decide +kernel
theorem dX12_right_2 : decode cX12_right 2 = .ok (.invokevirtual 178, 3) := by decide +kernel
theorem dX12_right_5 : decode cX12_right 5 = .ok (.ifCond .eq 44, 3) := by decide +kernel
theorem dX12_right_8 : decode cX12_right 8 = .ok (.iload_n 2, 1) := by decide +kernel
theorem dX12_right_9 : decode cX12_right 9 = .ok (.iconst 0, 1) := by decide +kernel
theorem dX12_right_10 : decode cX12_right 10 = .ok (.bipush 7, 2) := by decide +kernel
theorem dX12_right_12 : decode cX12_right 12 = .ok (.invokestatic 169, 3) := by decide +kernel
theorem dX12_right_15 : decode cX12_right 15 = .ok (.ifCond .eq 34, 3) := by decide +kernel
theorem dX12_right_18 : decode cX12_right 18 = .ok (.iload_n 3, 1) := by decide +kernel
theorem dX12_right_19 : decode cX12_right 19 = .ok (.iconst 0, 1) := by decide +kernel
theorem dX12_right_20 : decode cX12_right 20 = .ok (.bipush 100, 2) := by decide +kernel
theorem dX12_right_22 : decode cX12_right 22 = .ok (.invokestatic 169, 3) := by decide +kernel
theorem dX12_right_25 : decode cX12_right 25 = .ok (.ifCond .eq 24, 3) := by decide +kernel
theorem dX12_right_28 : decode cX12_right 28 = .ok (.iload 4, 2) := by decide +kernel
theorem dX12_right_30 : decode cX12_right 30 = .ok (.iconst 0, 1) := by decide +kernel
theorem dX12_right_31 : decode cX12_right 31 = .ok (.sipush 200, 3) := by decide +kernel
theorem dX12_right_34 : decode cX12_right 34 = .ok (.invokestatic 169, 3) := by decide +kernel
theorem dX12_right_37 : decode cX12_right 37 = .ok (.ifCond .eq 12, 3) := by decide +kernel
theorem dX12_right_40 : decode cX12_right 40 = .ok (.aload_n 0, 1) := by decide +kernel
theorem dX12_right_41 : decode cX12_right 41 = .ok (.getfield 280, 3) := by decide +kernel
theorem dX12_right_44 : decode cX12_right 44 = .ok (.bipush 100, 2) := by decide +kernel
theorem dX12_right_46 : decode cX12_right 46 = .ok (.if_icmp .ne 5, 3) := by decide +kernel
theorem dX12_right_49 : decode cX12_right 49 = .ok (.iconst 0, 1) := by decide +kernel
theorem dX12_right_50 : decode cX12_right 50 = .ok (.ireturn, 1) := by decide +kernel
theorem dX12_right_51 : decode cX12_right 51 = .ok (.aload_n 0, 1) := by decide +kernel
theorem dX12_right_52 : decode cX12_right 52 = .ok (.getfield 112, 3) := by decide +kernel
theorem dX12_right_55 : decode cX12_right 55 = .ok (.aload_n 0, 1) := by decide +kernel
theorem dX12_right_56 : decode cX12_right 56 = .ok (.getfield 280, 3) := by decide +kernel
theorem dX12_right_59 : decode cX12_right 59 = .ok (.iload_n 1, 1) := by decide +kernel
theorem dX12_right_60 : decode cX12_right 60 = .ok (.iastore, 1) := by decide +kernel
theorem dX12_right_61 : decode cX12_right 61 = .ok (.aload_n 0, 1) := by decide +kernel
theorem dX12_right_62 : decode cX12_right 62 = .ok (.getfield 115, 3) := by decide +kernel
theorem dX12_right_65 : decode cX12_right 65 = .ok (.aload_n 0, 1) := by decide +kernel
theorem dX12_right_66 : decode cX12_right 66 = .ok (.getfield 280, 3) := by decide +kernel
theorem dX12_right_69 : decode cX12_right 69 = .ok (.iload_n 2, 1) := by decide +kernel
theorem dX12_right_70 : decode cX12_right 70 = .ok (.iastore, 1) := by decide +kernel
theorem dX12_right_71 : decode cX12_right 71 = .ok (.aload_n 0, 1) := by decide +kernel
theorem dX12_right_72 : decode cX12_right 72 = .ok (.getfield 118, 3) := by decide +kernel
theorem dX12_right_75 : decode cX12_right 75 = .ok (.aload_n 0, 1) := by decide +kernel
theorem dX12_right_76 : decode cX12_right 76 = .ok (.getfield 280, 3) := by decide +kernel
theorem dX12_right_79 : decode cX12_right 79 = .ok (.iload_n 3, 1) := by decide +kernel
theorem dX12_right_80 : decode cX12_right 80 = .ok (.iastore, 1) := by decide +kernel
theorem dX12_right_81 : decode cX12_right 81 = .ok (.aload_n 0, 1) := by decide +kernel
theorem dX12_right_82 : decode cX12_right 82 = .ok (.getfield 121, 3) := by decide +kernel
theorem dX12_right_85 : decode cX12_right 85 = .ok (.aload_n 0, 1) := by decide +kernel
theorem dX12_right_86 : decode cX12_right 86 = .ok (.getfield 280, 3) := by decide +kernel
theorem dX12_right_89 : decode cX12_right 89 = .ok (.iload 4, 2) := by decide +kernel
theorem dX12_right_91 : decode cX12_right 91 = .ok (.iastore, 1) := by decide +kernel
theorem dX12_right_92 : decode cX12_right 92 = .ok (.aload_n 0, 1) := by decide +kernel
theorem dX12_right_93 : decode cX12_right 93 = .ok (.dup, 1) := by decide +kernel
theorem dX12_right_94 : decode cX12_right 94 = .ok (.getfield 280, 3) := by decide +kernel
theorem dX12_right_97 : decode cX12_right 97 = .ok (.iconst 1, 1) := by decide +kernel
theorem dX12_right_98 : decode cX12_right 98 = .ok (.iadd, 1) := by decide +kernel
theorem dX12_right_99 : decode cX12_right 99 = .ok (.putfield 280, 3) := by decide +kernel
theorem dX12_right_102 : decode cX12_right 102 = .ok (.iconst 1, 1) := by decide +kernel
theorem dX12_right_103 : decode cX12_right 103 = .ok (.ireturn, 1) := by decide +kernel
theorem dX12_inForce_0 : decode cX12_inForce 0 = .ok (.iconst 0, 1) := by decide +kernel
theorem dX12_inForce_1 : decode cX12_inForce 1 = .ok (.istore 4, 2) := by decide +kernel
theorem dX12_inForce_3 : decode cX12_inForce 3 = .ok (.iconst (-1), 1) := by decide +kernel
theorem dX12_inForce_4 : decode cX12_inForce 4 = .ok (.istore 5, 2) := by decide +kernel
theorem dX12_inForce_6 : decode cX12_inForce 6 = .ok (.iconst 0, 1) := by decide +kernel
theorem dX12_inForce_7 : decode cX12_inForce 7 = .ok (.istore 6, 2) := by decide +kernel
theorem dX12_inForce_9 : decode cX12_inForce 9 = .ok (.iload 6, 2) := by decide +kernel
theorem dX12_inForce_11 : decode cX12_inForce 11 = .ok (.aload_n 0, 1) := by decide +kernel
theorem dX12_inForce_12 : decode cX12_inForce 12 = .ok (.getfield 280, 3) := by decide +kernel
theorem dX12_inForce_15 : decode cX12_inForce 15 = .ok (.if_icmp .ge 72, 3) := by decide +kernel
theorem dX12_inForce_18 : decode cX12_inForce 18 = .ok (.aload_n 0, 1) := by decide +kernel
theorem dX12_inForce_19 : decode cX12_inForce 19 = .ok (.getfield 112, 3) := by decide +kernel
theorem dX12_inForce_22 : decode cX12_inForce 22 = .ok (.iload 6, 2) := by decide +kernel
theorem dX12_inForce_24 : decode cX12_inForce 24 = .ok (.iaload, 1) := by decide +kernel
theorem dX12_inForce_25 : decode cX12_inForce 25 = .ok (.iload_n 1, 1) := by decide +kernel
theorem dX12_inForce_26 : decode cX12_inForce 26 = .ok (.if_icmp .ne 55, 3) := by decide +kernel
theorem dX12_inForce_29 : decode cX12_inForce 29 = .ok (.aload_n 0, 1) := by decide +kernel
theorem dX12_inForce_30 : decode cX12_inForce 30 = .ok (.getfield 115, 3) := by decide +kernel
theorem dX12_inForce_33 : decode cX12_inForce 33 = .ok (.iload 6, 2) := by decide +kernel
theorem dX12_inForce_35 : decode cX12_inForce 35 = .ok (.iaload, 1) := by decide +kernel
theorem dX12_inForce_36 : decode cX12_inForce 36 = .ok (.iload_n 2, 1) := by decide +kernel
theorem dX12_inForce_37 : decode cX12_inForce 37 = .ok (.if_icmp .ne 44, 3) := by decide +kernel
theorem dX12_inForce_40 : decode cX12_inForce 40 = .ok (.aload_n 0, 1) := by decide +kernel
theorem dX12_inForce_41 : decode cX12_inForce 41 = .ok (.getfield 121, 3) := by decide +kernel
theorem dX12_inForce_44 : decode cX12_inForce 44 = .ok (.iload 6, 2) := by decide +kernel
theorem dX12_inForce_46 : decode cX12_inForce 46 = .ok (.iaload, 1) := by decide +kernel
theorem dX12_inForce_47 : decode cX12_inForce 47 = .ok (.iload_n 3, 1) := by decide +kernel
theorem dX12_inForce_48 : decode cX12_inForce 48 = .ok (.if_icmp .gt 33, 3) := by decide +kernel
theorem dX12_inForce_51 : decode cX12_inForce 51 = .ok (.aload_n 0, 1) := by decide +kernel
theorem dX12_inForce_52 : decode cX12_inForce 52 = .ok (.getfield 121, 3) := by decide +kernel
theorem dX12_inForce_55 : decode cX12_inForce 55 = .ok (.iload 6, 2) := by decide +kernel
theorem dX12_inForce_57 : decode cX12_inForce 57 = .ok (.iaload, 1) := by decide +kernel
theorem dX12_inForce_58 : decode cX12_inForce 58 = .ok (.iload 5, 2) := by decide +kernel
theorem dX12_inForce_60 : decode cX12_inForce 60 = .ok (.if_icmp .lt 21, 3) := by decide +kernel
theorem dX12_inForce_63 : decode cX12_inForce 63 = .ok (.aload_n 0, 1) := by decide +kernel
theorem dX12_inForce_64 : decode cX12_inForce 64 = .ok (.getfield 118, 3) := by decide +kernel
theorem dX12_inForce_67 : decode cX12_inForce 67 = .ok (.iload 6, 2) := by decide +kernel
theorem dX12_inForce_69 : decode cX12_inForce 69 = .ok (.iaload, 1) := by decide +kernel
theorem dX12_inForce_70 : decode cX12_inForce 70 = .ok (.istore 4, 2) := by decide +kernel
theorem dX12_inForce_72 : decode cX12_inForce 72 = .ok (.aload_n 0, 1) := by decide +kernel
theorem dX12_inForce_73 : decode cX12_inForce 73 = .ok (.getfield 121, 3) := by decide +kernel
theorem dX12_inForce_76 : decode cX12_inForce 76 = .ok (.iload 6, 2) := by decide +kernel
theorem dX12_inForce_78 : decode cX12_inForce 78 = .ok (.iaload, 1) := by decide +kernel
theorem dX12_inForce_79 : decode cX12_inForce 79 = .ok (.istore 5, 2) := by decide +kernel
theorem dX12_inForce_81 : decode cX12_inForce 81 = .ok (.iinc 6 1, 3) := by decide +kernel
theorem dX12_inForce_84 : decode cX12_inForce 84 = .ok (.goto (-75), 3) := by decide +kernel
theorem dX12_inForce_87 : decode cX12_inForce 87 = .ok (.iload 4, 2) := by decide +kernel
theorem dX12_inForce_89 : decode cX12_inForce 89 = .ok (.ireturn, 1) := by decide +kernel
theorem dX12_longer_0 : decode cX12_longer 0 = .ok (.iconst 2, 1) := by decide +kernel
theorem dX12_longer_1 : decode cX12_longer 1 = .ok (.aload_n 0, 1) := by decide +kernel
theorem dX12_longer_2 : decode cX12_longer 2 = .ok (.arraylength, 1) := by decide +kernel
theorem dX12_longer_3 : decode cX12_longer 3 = .ok (.imul, 1) := by decide +kernel
theorem dX12_longer_4 : decode cX12_longer 4 = .ok (.newarray .int, 2) := by decide +kernel
theorem dX12_longer_6 : decode cX12_longer 6 = .ok (.astore_n 1, 1) := by decide +kernel
theorem dX12_longer_7 : decode cX12_longer 7 = .ok (.iconst 0, 1) := by decide +kernel
theorem dX12_longer_8 : decode cX12_longer 8 = .ok (.istore_n 2, 1) := by decide +kernel
theorem dX12_longer_9 : decode cX12_longer 9 = .ok (.iload_n 2, 1) := by decide +kernel
theorem dX12_longer_10 : decode cX12_longer 10 = .ok (.aload_n 0, 1) := by decide +kernel
theorem dX12_longer_11 : decode cX12_longer 11 = .ok (.arraylength, 1) := by decide +kernel
theorem dX12_longer_12 : decode cX12_longer 12 = .ok (.if_icmp .ge 15, 3) := by decide +kernel
theorem dX12_longer_15 : decode cX12_longer 15 = .ok (.aload_n 1, 1) := by decide +kernel
theorem dX12_longer_16 : decode cX12_longer 16 = .ok (.iload_n 2, 1) := by decide +kernel
theorem dX12_longer_17 : decode cX12_longer 17 = .ok (.aload_n 0, 1) := by decide +kernel
theorem dX12_longer_18 : decode cX12_longer 18 = .ok (.iload_n 2, 1) := by decide +kernel
theorem dX12_longer_19 : decode cX12_longer 19 = .ok (.iaload, 1) := by decide +kernel
theorem dX12_longer_20 : decode cX12_longer 20 = .ok (.iastore, 1) := by decide +kernel
theorem dX12_longer_21 : decode cX12_longer 21 = .ok (.iinc 2 1, 3) := by decide +kernel
theorem dX12_longer_24 : decode cX12_longer 24 = .ok (.goto (-15), 3) := by decide +kernel
theorem dX12_longer_27 : decode cX12_longer 27 = .ok (.aload_n 1, 1) := by decide +kernel
theorem dX12_longer_28 : decode cX12_longer 28 = .ok (.areturn, 1) := by decide +kernel
theorem dX12_settle_0 : decode cX12_settle 0 = .ok (.lconst 0, 1) := by decide +kernel
theorem dX12_settle_1 : decode cX12_settle 1 = .ok (.lstore_n 2, 1) := by decide +kernel
theorem dX12_settle_2 : decode cX12_settle 2 = .ok (.iconst 0, 1) := by decide +kernel
theorem dX12_settle_3 : decode cX12_settle 3 = .ok (.istore 4, 2) := by decide +kernel
theorem dX12_settle_5 : decode cX12_settle 5 = .ok (.iload 4, 2) := by decide +kernel
theorem dX12_settle_7 : decode cX12_settle 7 = .ok (.bipush 8, 2) := by decide +kernel
theorem dX12_settle_9 : decode cX12_settle 9 = .ok (.if_icmp .ge 89, 3) := by decide +kernel
theorem dX12_settle_12 : decode cX12_settle 12 = .ok (.aload_n 0, 1) := by decide +kernel
theorem dX12_settle_13 : decode cX12_settle 13 = .ok (.getfield 34, 3) := by decide +kernel
theorem dX12_settle_16 : decode cX12_settle 16 = .ok (.iload 4, 2) := by decide +kernel
theorem dX12_settle_18 : decode cX12_settle 18 = .ok (.lconst 0, 1) := by decide +kernel
theorem dX12_settle_19 : decode cX12_settle 19 = .ok (.lastore, 1) := by decide +kernel
theorem dX12_settle_20 : decode cX12_settle 20 = .ok (.iconst 0, 1) := by decide +kernel
theorem dX12_settle_21 : decode cX12_settle 21 = .ok (.istore 5, 2) := by decide +kernel
theorem dX12_settle_23 : decode cX12_settle 23 = .ok (.iload 5, 2) := by decide +kernel
theorem dX12_settle_25 : decode cX12_settle 25 = .ok (.aload_n 0, 1) := by decide +kernel
theorem dX12_settle_26 : decode cX12_settle 26 = .ok (.getfield 166, 3) := by decide +kernel
theorem dX12_settle_29 : decode cX12_settle 29 = .ok (.if_icmp .ge 53, 3) := by decide +kernel
theorem dX12_settle_32 : decode cX12_settle 32 = .ok (.aload_n 0, 1) := by decide +kernel
theorem dX12_settle_33 : decode cX12_settle 33 = .ok (.getfield 34, 3) := by decide +kernel
theorem dX12_settle_36 : decode cX12_settle 36 = .ok (.iload 4, 2) := by decide +kernel
theorem dX12_settle_38 : decode cX12_settle 38 = .ok (.dup2, 1) := by decide +kernel
theorem dX12_settle_39 : decode cX12_settle 39 = .ok (.laload, 1) := by decide +kernel
theorem dX12_settle_40 : decode cX12_settle 40 = .ok (.aload_n 0, 1) := by decide +kernel
theorem dX12_settle_41 : decode cX12_settle 41 = .ok (.getfield 91, 3) := by decide +kernel
theorem dX12_settle_44 : decode cX12_settle 44 = .ok (.bipush 12, 2) := by decide +kernel
theorem dX12_settle_46 : decode cX12_settle 46 = .ok (.aload_n 0, 1) := by decide +kernel
theorem dX12_settle_47 : decode cX12_settle 47 = .ok (.getfield 124, 3) := by decide +kernel
theorem dX12_settle_50 : decode cX12_settle 50 = .ok (.iload_n 1, 1) := by decide +kernel
theorem dX12_settle_51 : decode cX12_settle 51 = .ok (.iaload, 1) := by decide +kernel
theorem dX12_settle_52 : decode cX12_settle 52 = .ok (.imul, 1) := by decide +kernel
theorem dX12_settle_53 : decode cX12_settle 53 = .ok (.iload 5, 2) := by decide +kernel
theorem dX12_settle_55 : decode cX12_settle 55 = .ok (.iadd, 1) := by decide +kernel
theorem dX12_settle_56 : decode cX12_settle 56 = .ok (.iaload, 1) := by decide +kernel
theorem dX12_settle_57 : decode cX12_settle 57 = .ok (.i2l, 1) := by decide +kernel
theorem dX12_settle_58 : decode cX12_settle 58 = .ok (.aload_n 0, 1) := by decide +kernel
theorem dX12_settle_59 : decode cX12_settle 59 = .ok (.iload 5, 2) := by decide +kernel
theorem dX12_settle_61 : decode cX12_settle 61 = .ok (.iload 4, 2) := by decide +kernel
theorem dX12_settle_63 : decode cX12_settle 63 = .ok (.aload_n 0, 1) := by decide +kernel
theorem dX12_settle_64 : decode cX12_settle 64 = .ok (.getfield 130, 3) := by decide +kernel
theorem dX12_settle_67 : decode cX12_settle 67 = .ok (.iload_n 1, 1) := by decide +kernel
theorem dX12_settle_68 : decode cX12_settle 68 = .ok (.iaload, 1) := by decide +kernel
theorem dX12_settle_69 : decode cX12_settle 69 = .ok (.invokevirtual 283, 3) := by decide +kernel
theorem dX12_settle_72 : decode cX12_settle 72 = .ok (.i2l, 1) := by decide +kernel
theorem dX12_settle_73 : decode cX12_settle 73 = .ok (.lmul, 1) := by decide +kernel
theorem dX12_settle_74 : decode cX12_settle 74 = .ok (.ladd, 1) := by decide +kernel
theorem dX12_settle_75 : decode cX12_settle 75 = .ok (.lastore, 1) := by decide +kernel
theorem dX12_settle_76 : decode cX12_settle 76 = .ok (.iinc 5 1, 3) := by decide +kernel
theorem dX12_settle_79 : decode cX12_settle 79 = .ok (.goto (-56), 3) := by decide +kernel
theorem dX12_settle_82 : decode cX12_settle 82 = .ok (.lload_n 2, 1) := by decide +kernel
theorem dX12_settle_83 : decode cX12_settle 83 = .ok (.aload_n 0, 1) := by decide +kernel
theorem dX12_settle_84 : decode cX12_settle 84 = .ok (.getfield 34, 3) := by decide +kernel
theorem dX12_settle_87 : decode cX12_settle 87 = .ok (.iload 4, 2) := by decide +kernel
theorem dX12_settle_89 : decode cX12_settle 89 = .ok (.laload, 1) := by decide +kernel
theorem dX12_settle_90 : decode cX12_settle 90 = .ok (.ladd, 1) := by decide +kernel
theorem dX12_settle_91 : decode cX12_settle 91 = .ok (.lstore_n 2, 1) := by decide +kernel
theorem dX12_settle_92 : decode cX12_settle 92 = .ok (.iinc 4 1, 3) := by decide +kernel
theorem dX12_settle_95 : decode cX12_settle 95 = .ok (.goto (-90), 3) := by decide +kernel
theorem dX12_settle_98 : decode cX12_settle 98 = .ok (.lload_n 2, 1) := by decide +kernel
theorem dX12_settle_99 : decode cX12_settle 99 = .ok (.lconst 0, 1) := by decide +kernel
theorem dX12_settle_100 : decode cX12_settle 100 = .ok (.lcmp, 1) := by decide +kernel
theorem dX12_settle_101 : decode cX12_settle 101 = .ok (.ifCond .ne 10, 3) := by decide +kernel
theorem dX12_settle_104 : decode cX12_settle 104 = .ok (.aload_n 0, 1) := by decide +kernel
theorem dX12_settle_105 : decode cX12_settle 105 = .ok (.getfield 34, 3) := by decide +kernel
theorem dX12_settle_108 : decode cX12_settle 108 = .ok (.iconst 0, 1) := by decide +kernel
theorem dX12_settle_109 : decode cX12_settle 109 = .ok (.lconst 1, 1) := by decide +kernel
theorem dX12_settle_110 : decode cX12_settle 110 = .ok (.lastore, 1) := by decide +kernel
theorem dX12_settle_111 : decode cX12_settle 111 = .ok (.aload_n 0, 1) := by decide +kernel
theorem dX12_settle_112 : decode cX12_settle 112 = .ok (.aload_n 0, 1) := by decide +kernel
theorem dX12_settle_113 : decode cX12_settle 113 = .ok (.getfield 127, 3) := by decide +kernel
theorem dX12_settle_116 : decode cX12_settle 116 = .ok (.iload_n 1, 1) := by decide +kernel
theorem dX12_settle_117 : decode cX12_settle 117 = .ok (.iaload, 1) := by decide +kernel
theorem dX12_settle_118 : decode cX12_settle 118 = .ok (.i2l, 1) := by decide +kernel
theorem dX12_settle_119 : decode cX12_settle 119 = .ok (.bipush 8, 2) := by decide +kernel
theorem dX12_settle_121 : decode cX12_settle 121 = .ok (.invokevirtual 173, 3) := by decide +kernel
theorem dX12_settle_124 : decode cX12_settle 124 = .ok (.iconst 0, 1) := by decide +kernel
theorem dX12_settle_125 : decode cX12_settle 125 = .ok (.istore 4, 2) := by decide +kernel
theorem dX12_settle_127 : decode cX12_settle 127 = .ok (.iconst 0, 1) := by decide +kernel
theorem dX12_settle_128 : decode cX12_settle 128 = .ok (.istore 5, 2) := by decide +kernel
theorem dX12_settle_130 : decode cX12_settle 130 = .ok (.iload 5, 2) := by decide +kernel
theorem dX12_settle_132 : decode cX12_settle 132 = .ok (.bipush 8, 2) := by decide +kernel
theorem dX12_settle_134 : decode cX12_settle 134 = .ok (.if_icmp .ge 184, 3) := by decide +kernel
theorem dX12_settle_137 : decode cX12_settle 137 = .ok (.aload_n 0, 1) := by decide +kernel
theorem dX12_settle_138 : decode cX12_settle 138 = .ok (.getfield 38, 3) := by decide +kernel
theorem dX12_settle_141 : decode cX12_settle 141 = .ok (.iload 5, 2) := by decide +kernel
theorem dX12_settle_143 : decode cX12_settle 143 = .ok (.iaload, 1) := by decide +kernel
theorem dX12_settle_144 : decode cX12_settle 144 = .ok (.aload_n 0, 1) := by decide +kernel
theorem dX12_settle_145 : decode cX12_settle 145 = .ok (.getfield 133, 3) := by decide +kernel
theorem dX12_settle_148 : decode cX12_settle 148 = .ok (.bipush 8, 2) := by decide +kernel
theorem dX12_settle_150 : decode cX12_settle 150 = .ok (.iload_n 1, 1) := by decide +kernel
theorem dX12_settle_151 : decode cX12_settle 151 = .ok (.imul, 1) := by decide +kernel
theorem dX12_settle_152 : decode cX12_settle 152 = .ok (.iload 5, 2) := by decide +kernel
theorem dX12_settle_154 : decode cX12_settle 154 = .ok (.iadd, 1) := by decide +kernel
theorem dX12_settle_155 : decode cX12_settle 155 = .ok (.iaload, 1) := by decide +kernel
theorem dX12_settle_156 : decode cX12_settle 156 = .ok (.isub, 1) := by decide +kernel
theorem dX12_settle_157 : decode cX12_settle 157 = .ok (.istore 6, 2) := by decide +kernel
theorem dX12_settle_159 : decode cX12_settle 159 = .ok (.iload 6, 2) := by decide +kernel
theorem dX12_settle_161 : decode cX12_settle 161 = .ok (.ifCond .ne 6, 3) := by decide +kernel
theorem dX12_settle_164 : decode cX12_settle 164 = .ok (.goto 148, 3) := by decide +kernel
theorem dX12_settle_167 : decode cX12_settle 167 = .ok (.aload_n 0, 1) := by decide +kernel
theorem dX12_settle_168 : decode cX12_settle 168 = .ok (.getfield 287, 3) := by decide +kernel
theorem dX12_settle_171 : decode cX12_settle 171 = .ok (.aload_n 0, 1) := by decide +kernel
theorem dX12_settle_172 : decode cX12_settle 172 = .ok (.getfield 139, 3) := by decide +kernel
theorem dX12_settle_175 : decode cX12_settle 175 = .ok (.arraylength, 1) := by decide +kernel
theorem dX12_settle_176 : decode cX12_settle 176 = .ok (.if_icmp .ne 47, 3) := by decide +kernel
theorem dX12_settle_179 : decode cX12_settle 179 = .ok (.aload_n 0, 1) := by decide +kernel
theorem dX12_settle_180 : decode cX12_settle 180 = .ok (.aload_n 0, 1) := by decide +kernel
theorem dX12_settle_181 : decode cX12_settle 181 = .ok (.getfield 139, 3) := by decide +kernel
theorem dX12_settle_184 : decode cX12_settle 184 = .ok (.invokestatic 290, 3) := by decide +kernel
theorem dX12_settle_187 : decode cX12_settle 187 = .ok (.putfield 139, 3) := by decide +kernel
theorem dX12_settle_190 : decode cX12_settle 190 = .ok (.aload_n 0, 1) := by decide +kernel
theorem dX12_settle_191 : decode cX12_settle 191 = .ok (.aload_n 0, 1) := by decide +kernel
theorem dX12_settle_192 : decode cX12_settle 192 = .ok (.getfield 142, 3) := by decide +kernel
theorem dX12_settle_195 : decode cX12_settle 195 = .ok (.invokestatic 290, 3) := by decide +kernel
theorem dX12_settle_198 : decode cX12_settle 198 = .ok (.putfield 142, 3) := by decide +kernel
theorem dX12_settle_201 : decode cX12_settle 201 = .ok (.aload_n 0, 1) := by decide +kernel
theorem dX12_settle_202 : decode cX12_settle 202 = .ok (.aload_n 0, 1) := by decide +kernel
theorem dX12_settle_203 : decode cX12_settle 203 = .ok (.getfield 145, 3) := by decide +kernel
theorem dX12_settle_206 : decode cX12_settle 206 = .ok (.invokestatic 290, 3) := by decide +kernel
theorem dX12_settle_209 : decode cX12_settle 209 = .ok (.putfield 145, 3) := by decide +kernel
theorem dX12_settle_212 : decode cX12_settle 212 = .ok (.aload_n 0, 1) := by decide +kernel
theorem dX12_settle_213 : decode cX12_settle 213 = .ok (.aload_n 0, 1) := by decide +kernel
theorem dX12_settle_214 : decode cX12_settle 214 = .ok (.getfield 148, 3) := by decide +kernel
theorem dX12_settle_217 : decode cX12_settle 217 = .ok (.invokestatic 290, 3) := by decide +kernel
theorem dX12_settle_220 : decode cX12_settle 220 = .ok (.putfield 148, 3) := by decide +kernel
theorem dX12_settle_223 : decode cX12_settle 223 = .ok (.aload_n 0, 1) := by decide +kernel
theorem dX12_settle_224 : decode cX12_settle 224 = .ok (.getfield 139, 3) := by decide +kernel
theorem dX12_settle_227 : decode cX12_settle 227 = .ok (.aload_n 0, 1) := by decide +kernel
theorem dX12_settle_228 : decode cX12_settle 228 = .ok (.getfield 287, 3) := by decide +kernel
theorem dX12_settle_231 : decode cX12_settle 231 = .ok (.aload_n 0, 1) := by decide +kernel
theorem dX12_settle_232 : decode cX12_settle 232 = .ok (.getfield 191, 3) := by decide +kernel
theorem dX12_settle_235 : decode cX12_settle 235 = .ok (.iastore, 1) := by decide +kernel
theorem dX12_settle_236 : decode cX12_settle 236 = .ok (.aload_n 0, 1) := by decide +kernel
theorem dX12_settle_237 : decode cX12_settle 237 = .ok (.getfield 142, 3) := by decide +kernel
theorem dX12_settle_240 : decode cX12_settle 240 = .ok (.aload_n 0, 1) := by decide +kernel
theorem dX12_settle_241 : decode cX12_settle 241 = .ok (.getfield 287, 3) := by decide +kernel
theorem dX12_settle_244 : decode cX12_settle 244 = .ok (.iload_n 1, 1) := by decide +kernel
theorem dX12_settle_245 : decode cX12_settle 245 = .ok (.iastore, 1) := by decide +kernel
theorem dX12_settle_246 : decode cX12_settle 246 = .ok (.aload_n 0, 1) := by decide +kernel
theorem dX12_settle_247 : decode cX12_settle 247 = .ok (.getfield 145, 3) := by decide +kernel
theorem dX12_settle_250 : decode cX12_settle 250 = .ok (.aload_n 0, 1) := by decide +kernel
theorem dX12_settle_251 : decode cX12_settle 251 = .ok (.getfield 287, 3) := by decide +kernel
theorem dX12_settle_254 : decode cX12_settle 254 = .ok (.iload 5, 2) := by decide +kernel
theorem dX12_settle_256 : decode cX12_settle 256 = .ok (.iastore, 1) := by decide +kernel
theorem dX12_settle_257 : decode cX12_settle 257 = .ok (.aload_n 0, 1) := by decide +kernel
theorem dX12_settle_258 : decode cX12_settle 258 = .ok (.getfield 148, 3) := by decide +kernel
theorem dX12_settle_261 : decode cX12_settle 261 = .ok (.aload_n 0, 1) := by decide +kernel
theorem dX12_settle_262 : decode cX12_settle 262 = .ok (.getfield 287, 3) := by decide +kernel
theorem dX12_settle_265 : decode cX12_settle 265 = .ok (.iload 6, 2) := by decide +kernel
theorem dX12_settle_267 : decode cX12_settle 267 = .ok (.iastore, 1) := by decide +kernel
theorem dX12_settle_268 : decode cX12_settle 268 = .ok (.aload_n 0, 1) := by decide +kernel
theorem dX12_settle_269 : decode cX12_settle 269 = .ok (.dup, 1) := by decide +kernel
theorem dX12_settle_270 : decode cX12_settle 270 = .ok (.getfield 287, 3) := by decide +kernel
theorem dX12_settle_273 : decode cX12_settle 273 = .ok (.iconst 1, 1) := by decide +kernel
theorem dX12_settle_274 : decode cX12_settle 274 = .ok (.iadd, 1) := by decide +kernel
theorem dX12_settle_275 : decode cX12_settle 275 = .ok (.putfield 287, 3) := by decide +kernel
theorem dX12_settle_278 : decode cX12_settle 278 = .ok (.aload_n 0, 1) := by decide +kernel
theorem dX12_settle_279 : decode cX12_settle 279 = .ok (.getfield 133, 3) := by decide +kernel
theorem dX12_settle_282 : decode cX12_settle 282 = .ok (.bipush 8, 2) := by decide +kernel
theorem dX12_settle_284 : decode cX12_settle 284 = .ok (.iload_n 1, 1) := by decide +kernel
theorem dX12_settle_285 : decode cX12_settle 285 = .ok (.imul, 1) := by decide +kernel
theorem dX12_settle_286 : decode cX12_settle 286 = .ok (.iload 5, 2) := by decide +kernel
theorem dX12_settle_288 : decode cX12_settle 288 = .ok (.iadd, 1) := by decide +kernel
theorem dX12_settle_289 : decode cX12_settle 289 = .ok (.aload_n 0, 1) := by decide +kernel
theorem dX12_settle_290 : decode cX12_settle 290 = .ok (.getfield 38, 3) := by decide +kernel
theorem dX12_settle_293 : decode cX12_settle 293 = .ok (.iload 5, 2) := by decide +kernel
theorem dX12_settle_295 : decode cX12_settle 295 = .ok (.iaload, 1) := by decide +kernel
theorem dX12_settle_296 : decode cX12_settle 296 = .ok (.iastore, 1) := by decide +kernel
theorem dX12_settle_297 : decode cX12_settle 297 = .ok (.aload_n 0, 1) := by decide +kernel
theorem dX12_settle_298 : decode cX12_settle 298 = .ok (.getfield 136, 3) := by decide +kernel
theorem dX12_settle_301 : decode cX12_settle 301 = .ok (.iload 5, 2) := by decide +kernel
theorem dX12_settle_303 : decode cX12_settle 303 = .ok (.dup2, 1) := by decide +kernel
theorem dX12_settle_304 : decode cX12_settle 304 = .ok (.iaload, 1) := by decide +kernel
theorem dX12_settle_305 : decode cX12_settle 305 = .ok (.iload 6, 2) := by decide +kernel
theorem dX12_settle_307 : decode cX12_settle 307 = .ok (.iadd, 1) := by decide +kernel
theorem dX12_settle_308 : decode cX12_settle 308 = .ok (.iastore, 1) := by decide +kernel
theorem dX12_settle_309 : decode cX12_settle 309 = .ok (.iinc 4 1, 3) := by decide +kernel
theorem dX12_settle_312 : decode cX12_settle 312 = .ok (.iinc 5 1, 3) := by decide +kernel
theorem dX12_settle_315 : decode cX12_settle 315 = .ok (.goto (-185), 3) := by decide +kernel
theorem dX12_settle_318 : decode cX12_settle 318 = .ok (.iload 4, 2) := by decide +kernel
theorem dX12_settle_320 : decode cX12_settle 320 = .ok (.ireturn, 1) := by decide +kernel
theorem dX12_pay_0 : decode cX12_pay 0 = .ok (.aload_n 0, 1) := by decide +kernel
theorem dX12_pay_1 : decode cX12_pay 1 = .ok (.iload_n 1, 1) := by decide +kernel
theorem dX12_pay_2 : decode cX12_pay 2 = .ok (.invokevirtual 267, 3) := by decide +kernel
theorem dX12_pay_5 : decode cX12_pay 5 = .ok (.ifCond .eq 22, 3) := by decide +kernel
theorem dX12_pay_8 : decode cX12_pay 8 = .ok (.iload_n 2, 1) := by decide +kernel
theorem dX12_pay_9 : decode cX12_pay 9 = .ok (.iconst 1, 1) := by decide +kernel
theorem dX12_pay_10 : decode cX12_pay 10 = .ok (.ldc 194, 2) := by decide +kernel
theorem dX12_pay_12 : decode cX12_pay 12 = .ok (.invokestatic 169, 3) := by decide +kernel
theorem dX12_pay_15 : decode cX12_pay 15 = .ok (.ifCond .eq 12, 3) := by decide +kernel
theorem dX12_pay_18 : decode cX12_pay 18 = .ok (.aload_n 0, 1) := by decide +kernel
theorem dX12_pay_19 : decode cX12_pay 19 = .ok (.getfield 294, 3) := by decide +kernel
theorem dX12_pay_22 : decode cX12_pay 22 = .ok (.bipush 60, 2) := by decide +kernel
theorem dX12_pay_24 : decode cX12_pay 24 = .ok (.if_icmp .ne 5, 3) := by decide +kernel
theorem dX12_pay_27 : decode cX12_pay 27 = .ok (.iconst (-1), 1) := by decide +kernel
theorem dX12_pay_28 : decode cX12_pay 28 = .ok (.ireturn, 1) := by decide +kernel
theorem dX12_pay_29 : decode cX12_pay 29 = .ok (.aload_n 0, 1) := by decide +kernel
theorem dX12_pay_30 : decode cX12_pay 30 = .ok (.getfield 124, 3) := by decide +kernel
theorem dX12_pay_33 : decode cX12_pay 33 = .ok (.aload_n 0, 1) := by decide +kernel
theorem dX12_pay_34 : decode cX12_pay 34 = .ok (.getfield 294, 3) := by decide +kernel
theorem dX12_pay_37 : decode cX12_pay 37 = .ok (.iload_n 1, 1) := by decide +kernel
theorem dX12_pay_38 : decode cX12_pay 38 = .ok (.iastore, 1) := by decide +kernel
theorem dX12_pay_39 : decode cX12_pay 39 = .ok (.aload_n 0, 1) := by decide +kernel
theorem dX12_pay_40 : decode cX12_pay 40 = .ok (.getfield 127, 3) := by decide +kernel
theorem dX12_pay_43 : decode cX12_pay 43 = .ok (.aload_n 0, 1) := by decide +kernel
theorem dX12_pay_44 : decode cX12_pay 44 = .ok (.getfield 294, 3) := by decide +kernel
theorem dX12_pay_47 : decode cX12_pay 47 = .ok (.iload_n 2, 1) := by decide +kernel
theorem dX12_pay_48 : decode cX12_pay 48 = .ok (.iastore, 1) := by decide +kernel
theorem dX12_pay_49 : decode cX12_pay 49 = .ok (.aload_n 0, 1) := by decide +kernel
theorem dX12_pay_50 : decode cX12_pay 50 = .ok (.getfield 130, 3) := by decide +kernel
theorem dX12_pay_53 : decode cX12_pay 53 = .ok (.aload_n 0, 1) := by decide +kernel
theorem dX12_pay_54 : decode cX12_pay 54 = .ok (.getfield 294, 3) := by decide +kernel
theorem dX12_pay_57 : decode cX12_pay 57 = .ok (.aload_n 0, 1) := by decide +kernel
theorem dX12_pay_58 : decode cX12_pay 58 = .ok (.getfield 191, 3) := by decide +kernel
theorem dX12_pay_61 : decode cX12_pay 61 = .ok (.iastore, 1) := by decide +kernel
theorem dX12_pay_62 : decode cX12_pay 62 = .ok (.aload_n 0, 1) := by decide +kernel
theorem dX12_pay_63 : decode cX12_pay 63 = .ok (.dup, 1) := by decide +kernel
theorem dX12_pay_64 : decode cX12_pay 64 = .ok (.getfield 294, 3) := by decide +kernel
theorem dX12_pay_67 : decode cX12_pay 67 = .ok (.iconst 1, 1) := by decide +kernel
theorem dX12_pay_68 : decode cX12_pay 68 = .ok (.iadd, 1) := by decide +kernel
theorem dX12_pay_69 : decode cX12_pay 69 = .ok (.putfield 294, 3) := by decide +kernel
theorem dX12_pay_72 : decode cX12_pay 72 = .ok (.aload_n 0, 1) := by decide +kernel
theorem dX12_pay_73 : decode cX12_pay 73 = .ok (.aload_n 0, 1) := by decide +kernel
theorem dX12_pay_74 : decode cX12_pay 74 = .ok (.getfield 294, 3) := by decide +kernel
theorem dX12_pay_77 : decode cX12_pay 77 = .ok (.iconst 1, 1) := by decide +kernel
theorem dX12_pay_78 : decode cX12_pay 78 = .ok (.isub, 1) := by decide +kernel
theorem dX12_pay_79 : decode cX12_pay 79 = .ok (.invokevirtual 297, 3) := by decide +kernel
theorem dX12_pay_82 : decode cX12_pay 82 = .ok (.pop, 1) := by decide +kernel
theorem dX12_pay_83 : decode cX12_pay 83 = .ok (.aload_n 0, 1) := by decide +kernel
theorem dX12_pay_84 : decode cX12_pay 84 = .ok (.getfield 294, 3) := by decide +kernel
theorem dX12_pay_87 : decode cX12_pay 87 = .ok (.iconst 1, 1) := by decide +kernel
theorem dX12_pay_88 : decode cX12_pay 88 = .ok (.isub, 1) := by decide +kernel
theorem dX12_pay_89 : decode cX12_pay 89 = .ok (.ireturn, 1) := by decide +kernel
theorem dX12_again_0 : decode cX12_again 0 = .ok (.iload_n 1, 1) := by decide +kernel
theorem dX12_again_1 : decode cX12_again 1 = .ok (.iconst 0, 1) := by decide +kernel
theorem dX12_again_2 : decode cX12_again 2 = .ok (.aload_n 0, 1) := by decide +kernel
theorem dX12_again_3 : decode cX12_again 3 = .ok (.getfield 294, 3) := by decide +kernel
theorem dX12_again_6 : decode cX12_again 6 = .ok (.iconst 1, 1) := by decide +kernel
theorem dX12_again_7 : decode cX12_again 7 = .ok (.isub, 1) := by decide +kernel
theorem dX12_again_8 : decode cX12_again 8 = .ok (.invokestatic 169, 3) := by decide +kernel
theorem dX12_again_11 : decode cX12_again 11 = .ok (.ifCond .eq 11, 3) := by decide +kernel
theorem dX12_again_14 : decode cX12_again 14 = .ok (.aload_n 0, 1) := by decide +kernel
theorem dX12_again_15 : decode cX12_again 15 = .ok (.iload_n 1, 1) := by decide +kernel
theorem dX12_again_16 : decode cX12_again 16 = .ok (.invokevirtual 297, 3) := by decide +kernel
theorem dX12_again_19 : decode cX12_again 19 = .ok (.goto 4, 3) := by decide +kernel
theorem dX12_again_22 : decode cX12_again 22 = .ok (.iconst (-1), 1) := by decide +kernel
theorem dX12_again_23 : decode cX12_again 23 = .ok (.ireturn, 1) := by decide +kernel
theorem dX12_line_0 : decode cX12_line 0 = .ok (.iload_n 1, 1) := by decide +kernel
theorem dX12_line_1 : decode cX12_line 1 = .ok (.iconst 0, 1) := by decide +kernel
theorem dX12_line_2 : decode cX12_line 2 = .ok (.aload_n 0, 1) := by decide +kernel
theorem dX12_line_3 : decode cX12_line 3 = .ok (.getfield 287, 3) := by decide +kernel
theorem dX12_line_6 : decode cX12_line 6 = .ok (.iconst 1, 1) := by decide +kernel
theorem dX12_line_7 : decode cX12_line 7 = .ok (.isub, 1) := by decide +kernel
theorem dX12_line_8 : decode cX12_line 8 = .ok (.invokestatic 169, 3) := by decide +kernel
theorem dX12_line_11 : decode cX12_line 11 = .ok (.ifCond .ne 5, 3) := by decide +kernel
theorem dX12_line_14 : decode cX12_line 14 = .ok (.iconst 0, 1) := by decide +kernel
theorem dX12_line_15 : decode cX12_line 15 = .ok (.ireturn, 1) := by decide +kernel
theorem dX12_line_16 : decode cX12_line 16 = .ok (.iload_n 2, 1) := by decide +kernel
theorem dX12_line_17 : decode cX12_line 17 = .ok (.ifCond .ne 12, 3) := by decide +kernel
theorem dX12_line_20 : decode cX12_line 20 = .ok (.aload_n 0, 1) := by decide +kernel
theorem dX12_line_21 : decode cX12_line 21 = .ok (.getfield 139, 3) := by decide +kernel
theorem dX12_line_24 : decode cX12_line 24 = .ok (.iload_n 1, 1) := by decide +kernel
theorem dX12_line_25 : decode cX12_line 25 = .ok (.iaload, 1) := by decide +kernel
theorem dX12_line_26 : decode cX12_line 26 = .ok (.goto 46, 3) := by decide +kernel
theorem dX12_line_29 : decode cX12_line 29 = .ok (.iload_n 2, 1) := by decide +kernel
theorem dX12_line_30 : decode cX12_line 30 = .ok (.iconst 1, 1) := by decide +kernel
theorem dX12_line_31 : decode cX12_line 31 = .ok (.if_icmp .ne 12, 3) := by decide +kernel
theorem dX12_line_34 : decode cX12_line 34 = .ok (.aload_n 0, 1) := by decide +kernel
theorem dX12_line_35 : decode cX12_line 35 = .ok (.getfield 142, 3) := by decide +kernel
theorem dX12_line_38 : decode cX12_line 38 = .ok (.iload_n 1, 1) := by decide +kernel
theorem dX12_line_39 : decode cX12_line 39 = .ok (.iaload, 1) := by decide +kernel
theorem dX12_line_40 : decode cX12_line 40 = .ok (.goto 32, 3) := by decide +kernel
theorem dX12_line_43 : decode cX12_line 43 = .ok (.iload_n 2, 1) := by decide +kernel
theorem dX12_line_44 : decode cX12_line 44 = .ok (.iconst 2, 1) := by decide +kernel
theorem dX12_line_45 : decode cX12_line 45 = .ok (.if_icmp .ne 12, 3) := by decide +kernel
theorem dX12_line_48 : decode cX12_line 48 = .ok (.aload_n 0, 1) := by decide +kernel
theorem dX12_line_49 : decode cX12_line 49 = .ok (.getfield 145, 3) := by decide +kernel
theorem dX12_line_52 : decode cX12_line 52 = .ok (.iload_n 1, 1) := by decide +kernel
theorem dX12_line_53 : decode cX12_line 53 = .ok (.iaload, 1) := by decide +kernel
theorem dX12_line_54 : decode cX12_line 54 = .ok (.goto 18, 3) := by decide +kernel
theorem dX12_line_57 : decode cX12_line 57 = .ok (.iload_n 2, 1) := by decide +kernel
theorem dX12_line_58 : decode cX12_line 58 = .ok (.iconst 3, 1) := by decide +kernel
theorem dX12_line_59 : decode cX12_line 59 = .ok (.if_icmp .ne 12, 3) := by decide +kernel
theorem dX12_line_62 : decode cX12_line 62 = .ok (.aload_n 0, 1) := by decide +kernel
theorem dX12_line_63 : decode cX12_line 63 = .ok (.getfield 148, 3) := by decide +kernel
theorem dX12_line_66 : decode cX12_line 66 = .ok (.iload_n 1, 1) := by decide +kernel
theorem dX12_line_67 : decode cX12_line 67 = .ok (.iaload, 1) := by decide +kernel
theorem dX12_line_68 : decode cX12_line 68 = .ok (.goto 4, 3) := by decide +kernel
theorem dX12_line_71 : decode cX12_line 71 = .ok (.iconst 0, 1) := by decide +kernel
theorem dX12_line_72 : decode cX12_line 72 = .ok (.ireturn, 1) := by decide +kernel
theorem dX12_coins_0 : decode cX12_coins 0 = .ok (.iload_n 1, 1) := by decide +kernel
theorem dX12_coins_1 : decode cX12_coins 1 = .ok (.iconst 0, 1) := by decide +kernel
theorem dX12_coins_2 : decode cX12_coins 2 = .ok (.bipush 7, 2) := by decide +kernel
theorem dX12_coins_4 : decode cX12_coins 4 = .ok (.invokestatic 169, 3) := by decide +kernel
theorem dX12_coins_7 : decode cX12_coins 7 = .ok (.ifCond .eq 12, 3) := by decide +kernel
theorem dX12_coins_10 : decode cX12_coins 10 = .ok (.aload_n 0, 1) := by decide +kernel
theorem dX12_coins_11 : decode cX12_coins 11 = .ok (.getfield 136, 3) := by decide +kernel
theorem dX12_coins_14 : decode cX12_coins 14 = .ok (.iload_n 1, 1) := by decide +kernel
theorem dX12_coins_15 : decode cX12_coins 15 = .ok (.iaload, 1) := by decide +kernel
theorem dX12_coins_16 : decode cX12_coins 16 = .ok (.goto 4, 3) := by decide +kernel
theorem dX12_coins_19 : decode cX12_coins 19 = .ok (.iconst 0, 1) := by decide +kernel
theorem dX12_coins_20 : decode cX12_coins 20 = .ok (.ireturn, 1) := by decide +kernel
theorem dX12_order_0 : decode cX12_order 0 = .ok (.aload_n 0, 1) := by decide +kernel
theorem dX12_order_1 : decode cX12_order 1 = .ok (.getfield 300, 3) := by decide +kernel
theorem dX12_order_4 : decode cX12_order 4 = .ok (.bipush 8, 2) := by decide +kernel
theorem dX12_order_6 : decode cX12_order 6 = .ok (.if_icmp .eq 22, 3) := by decide +kernel
theorem dX12_order_9 : decode cX12_order 9 = .ok (.iload_n 1, 1) := by decide +kernel
theorem dX12_order_10 : decode cX12_order 10 = .ok (.iconst 0, 1) := by decide +kernel
theorem dX12_order_11 : decode cX12_order 11 = .ok (.iconst 2, 1) := by decide +kernel
theorem dX12_order_12 : decode cX12_order 12 = .ok (.invokestatic 169, 3) := by decide +kernel
theorem dX12_order_15 : decode cX12_order 15 = .ok (.ifCond .eq 13, 3) := by decide +kernel
theorem dX12_order_18 : decode cX12_order 18 = .ok (.iload_n 2, 1) := by decide +kernel
theorem dX12_order_19 : decode cX12_order 19 = .ok (.iconst 0, 1) := by decide +kernel
theorem dX12_order_20 : decode cX12_order 20 = .ok (.ldc 177, 2) := by decide +kernel
theorem dX12_order_22 : decode cX12_order 22 = .ok (.invokestatic 169, 3) := by decide +kernel
theorem dX12_order_25 : decode cX12_order 25 = .ok (.ifCond .ne 5, 3) := by decide +kernel
theorem dX12_order_28 : decode cX12_order 28 = .ok (.iconst (-1), 1) := by decide +kernel
theorem dX12_order_29 : decode cX12_order 29 = .ok (.ireturn, 1) := by decide +kernel
theorem dX12_order_30 : decode cX12_order 30 = .ok (.aload_n 0, 1) := by decide +kernel
theorem dX12_order_31 : decode cX12_order 31 = .ok (.getfield 151, 3) := by decide +kernel
theorem dX12_order_34 : decode cX12_order 34 = .ok (.aload_n 0, 1) := by decide +kernel
theorem dX12_order_35 : decode cX12_order 35 = .ok (.getfield 300, 3) := by decide +kernel
theorem dX12_order_38 : decode cX12_order 38 = .ok (.iload_n 1, 1) := by decide +kernel
theorem dX12_order_39 : decode cX12_order 39 = .ok (.iastore, 1) := by decide +kernel
theorem dX12_order_40 : decode cX12_order 40 = .ok (.aload_n 0, 1) := by decide +kernel
theorem dX12_order_41 : decode cX12_order 41 = .ok (.getfield 154, 3) := by decide +kernel
theorem dX12_order_44 : decode cX12_order 44 = .ok (.aload_n 0, 1) := by decide +kernel
theorem dX12_order_45 : decode cX12_order 45 = .ok (.getfield 300, 3) := by decide +kernel
theorem dX12_order_48 : decode cX12_order 48 = .ok (.iload_n 2, 1) := by decide +kernel
theorem dX12_order_49 : decode cX12_order 49 = .ok (.iastore, 1) := by decide +kernel
theorem dX12_order_50 : decode cX12_order 50 = .ok (.aload_n 0, 1) := by decide +kernel
theorem dX12_order_51 : decode cX12_order 51 = .ok (.dup, 1) := by decide +kernel
theorem dX12_order_52 : decode cX12_order 52 = .ok (.getfield 300, 3) := by decide +kernel
theorem dX12_order_55 : decode cX12_order 55 = .ok (.iconst 1, 1) := by decide +kernel
theorem dX12_order_56 : decode cX12_order 56 = .ok (.iadd, 1) := by decide +kernel
theorem dX12_order_57 : decode cX12_order 57 = .ok (.putfield 300, 3) := by decide +kernel
theorem dX12_order_60 : decode cX12_order 60 = .ok (.aload_n 0, 1) := by decide +kernel
theorem dX12_order_61 : decode cX12_order 61 = .ok (.getfield 300, 3) := by decide +kernel
theorem dX12_order_64 : decode cX12_order 64 = .ok (.iconst 1, 1) := by decide +kernel
theorem dX12_order_65 : decode cX12_order 65 = .ok (.isub, 1) := by decide +kernel
theorem dX12_order_66 : decode cX12_order 66 = .ok (.ireturn, 1) := by decide +kernel
theorem dX12_clear_0 : decode cX12_clear 0 = .ok (.aload_n 0, 1) := by decide +kernel
theorem dX12_clear_1 : decode cX12_clear 1 = .ok (.iconst 0, 1) := by decide +kernel
theorem dX12_clear_2 : decode cX12_clear 2 = .ok (.putfield 300, 3) := by decide +kernel
theorem dX12_clear_5 : decode cX12_clear 5 = .ok (.return_, 1) := by decide +kernel
theorem dX12_fits_0 : decode cX12_fits 0 = .ok (.aload_n 0, 1) := by decide +kernel
theorem dX12_fits_1 : decode cX12_fits 1 = .ok (.iload_n 2, 1) := by decide +kernel
theorem dX12_fits_2 : decode cX12_fits 2 = .ok (.invokevirtual 276, 3) := by decide +kernel
theorem dX12_fits_5 : decode cX12_fits 5 = .ok (.aload_n 0, 1) := by decide +kernel
theorem dX12_fits_6 : decode cX12_fits 6 = .ok (.getfield 151, 3) := by decide +kernel
theorem dX12_fits_9 : decode cX12_fits 9 = .ok (.iload_n 1, 1) := by decide +kernel
theorem dX12_fits_10 : decode cX12_fits 10 = .ok (.iaload, 1) := by decide +kernel
theorem dX12_fits_11 : decode cX12_fits 11 = .ok (.if_icmp .gt 22, 3) := by decide +kernel
theorem dX12_fits_14 : decode cX12_fits 14 = .ok (.aload_n 0, 1) := by decide +kernel
theorem dX12_fits_15 : decode cX12_fits 15 = .ok (.getfield 97, 3) := by decide +kernel
theorem dX12_fits_18 : decode cX12_fits 18 = .ok (.iload_n 2, 1) := by decide +kernel
theorem dX12_fits_19 : decode cX12_fits 19 = .ok (.iaload, 1) := by decide +kernel
theorem dX12_fits_20 : decode cX12_fits 20 = .ok (.aload_n 0, 1) := by decide +kernel
theorem dX12_fits_21 : decode cX12_fits 21 = .ok (.getfield 154, 3) := by decide +kernel
theorem dX12_fits_24 : decode cX12_fits 24 = .ok (.iload_n 1, 1) := by decide +kernel
theorem dX12_fits_25 : decode cX12_fits 25 = .ok (.iaload, 1) := by decide +kernel
theorem dX12_fits_26 : decode cX12_fits 26 = .ok (.if_icmp .lt 7, 3) := by decide +kernel
theorem dX12_fits_29 : decode cX12_fits 29 = .ok (.iconst 1, 1) := by decide +kernel
theorem dX12_fits_30 : decode cX12_fits 30 = .ok (.goto 4, 3) := by decide +kernel
theorem dX12_fits_33 : decode cX12_fits 33 = .ok (.iconst 0, 1) := by decide +kernel
theorem dX12_fits_34 : decode cX12_fits 34 = .ok (.ireturn, 1) := by decide +kernel
theorem dX12_finds_0 : decode cX12_finds 0 = .ok (.iconst 0, 1) := by decide +kernel
theorem dX12_finds_1 : decode cX12_finds 1 = .ok (.istore_n 3, 1) := by decide +kernel
theorem dX12_finds_2 : decode cX12_finds 2 = .ok (.iload_n 3, 1) := by decide +kernel
theorem dX12_finds_3 : decode cX12_finds 3 = .ok (.aload_n 0, 1) := by decide +kernel
theorem dX12_finds_4 : decode cX12_finds 4 = .ok (.getfield 257, 3) := by decide +kernel
theorem dX12_finds_7 : decode cX12_finds 7 = .ok (.if_icmp .ge 76, 3) := by decide +kernel
theorem dX12_finds_10 : decode cX12_finds 10 = .ok (.aload_n 0, 1) := by decide +kernel
theorem dX12_finds_11 : decode cX12_finds 11 = .ok (.getfield 163, 3) := by decide +kernel
theorem dX12_finds_14 : decode cX12_finds 14 = .ok (.iload_n 3, 1) := by decide +kernel
theorem dX12_finds_15 : decode cX12_finds 15 = .ok (.baload, 1) := by decide +kernel
theorem dX12_finds_16 : decode cX12_finds 16 = .ok (.ifCond .ne 61, 3) := by decide +kernel
theorem dX12_finds_19 : decode cX12_finds 19 = .ok (.aload_n 0, 1) := by decide +kernel
theorem dX12_finds_20 : decode cX12_finds 20 = .ok (.iload_n 1, 1) := by decide +kernel
theorem dX12_finds_21 : decode cX12_finds 21 = .ok (.iload_n 3, 1) := by decide +kernel
theorem dX12_finds_22 : decode cX12_finds 22 = .ok (.invokevirtual 303, 3) := by decide +kernel
theorem dX12_finds_25 : decode cX12_finds 25 = .ok (.ifCond .ne 6, 3) := by decide +kernel
theorem dX12_finds_28 : decode cX12_finds 28 = .ok (.goto 49, 3) := by decide +kernel
theorem dX12_finds_31 : decode cX12_finds 31 = .ok (.aload_n 0, 1) := by decide +kernel
theorem dX12_finds_32 : decode cX12_finds 32 = .ok (.getfield 163, 3) := by decide +kernel
theorem dX12_finds_35 : decode cX12_finds 35 = .ok (.iload_n 3, 1) := by decide +kernel
theorem dX12_finds_36 : decode cX12_finds 36 = .ok (.iconst 1, 1) := by decide +kernel
theorem dX12_finds_37 : decode cX12_finds 37 = .ok (.bastore, 1) := by decide +kernel
theorem dX12_finds_38 : decode cX12_finds 38 = .ok (.aload_n 0, 1) := by decide +kernel
theorem dX12_finds_39 : decode cX12_finds 39 = .ok (.getfield 160, 3) := by decide +kernel
theorem dX12_finds_42 : decode cX12_finds 42 = .ok (.iload_n 3, 1) := by decide +kernel
theorem dX12_finds_43 : decode cX12_finds 43 = .ok (.iaload, 1) := by decide +kernel
theorem dX12_finds_44 : decode cX12_finds 44 = .ok (.istore 4, 2) := by decide +kernel
theorem dX12_finds_46 : decode cX12_finds 46 = .ok (.iload 4, 2) := by decide +kernel
theorem dX12_finds_48 : decode cX12_finds 48 = .ok (.iconst (-1), 1) := by decide +kernel
theorem dX12_finds_49 : decode cX12_finds 49 = .ok (.if_icmp .eq 19, 3) := by decide +kernel
theorem dX12_finds_52 : decode cX12_finds 52 = .ok (.iload 4, 2) := by decide +kernel
theorem dX12_finds_54 : decode cX12_finds 54 = .ok (.iload_n 2, 1) := by decide +kernel
theorem dX12_finds_55 : decode cX12_finds 55 = .ok (.if_icmp .lt 22, 3) := by decide +kernel
theorem dX12_finds_58 : decode cX12_finds 58 = .ok (.aload_n 0, 1) := by decide +kernel
theorem dX12_finds_59 : decode cX12_finds 59 = .ok (.iload 4, 2) := by decide +kernel
theorem dX12_finds_61 : decode cX12_finds 61 = .ok (.iload_n 2, 1) := by decide +kernel
theorem dX12_finds_62 : decode cX12_finds 62 = .ok (.invokevirtual 307, 3) := by decide +kernel
theorem dX12_finds_65 : decode cX12_finds 65 = .ok (.ifCond .eq 12, 3) := by decide +kernel
theorem dX12_finds_68 : decode cX12_finds 68 = .ok (.aload_n 0, 1) := by decide +kernel
theorem dX12_finds_69 : decode cX12_finds 69 = .ok (.getfield 160, 3) := by decide +kernel
theorem dX12_finds_72 : decode cX12_finds 72 = .ok (.iload_n 3, 1) := by decide +kernel
theorem dX12_finds_73 : decode cX12_finds 73 = .ok (.iload_n 1, 1) := by decide +kernel
theorem dX12_finds_74 : decode cX12_finds 74 = .ok (.iastore, 1) := by decide +kernel
theorem dX12_finds_75 : decode cX12_finds 75 = .ok (.iconst 1, 1) := by decide +kernel
theorem dX12_finds_76 : decode cX12_finds 76 = .ok (.ireturn, 1) := by decide +kernel
theorem dX12_finds_77 : decode cX12_finds 77 = .ok (.iinc 3 1, 3) := by decide +kernel
theorem dX12_finds_80 : decode cX12_finds 80 = .ok (.goto (-78), 3) := by decide +kernel
theorem dX12_finds_83 : decode cX12_finds 83 = .ok (.iconst 0, 1) := by decide +kernel
theorem dX12_finds_84 : decode cX12_finds 84 = .ok (.ireturn, 1) := by decide +kernel
theorem dX12_most_0 : decode cX12_most 0 = .ok (.iconst 0, 1) := by decide +kernel
theorem dX12_most_1 : decode cX12_most 1 = .ok (.istore_n 2, 1) := by decide +kernel
theorem dX12_most_2 : decode cX12_most 2 = .ok (.iload_n 2, 1) := by decide +kernel
theorem dX12_most_3 : decode cX12_most 3 = .ok (.aload_n 0, 1) := by decide +kernel
theorem dX12_most_4 : decode cX12_most 4 = .ok (.getfield 257, 3) := by decide +kernel
theorem dX12_most_7 : decode cX12_most 7 = .ok (.if_icmp .ge 16, 3) := by decide +kernel
theorem dX12_most_10 : decode cX12_most 10 = .ok (.aload_n 0, 1) := by decide +kernel
theorem dX12_most_11 : decode cX12_most 11 = .ok (.getfield 160, 3) := by decide +kernel
theorem dX12_most_14 : decode cX12_most 14 = .ok (.iload_n 2, 1) := by decide +kernel
theorem dX12_most_15 : decode cX12_most 15 = .ok (.iconst (-1), 1) := by decide +kernel
theorem dX12_most_16 : decode cX12_most 16 = .ok (.iastore, 1) := by decide +kernel
theorem dX12_most_17 : decode cX12_most 17 = .ok (.iinc 2 1, 3) := by decide +kernel
theorem dX12_most_20 : decode cX12_most 20 = .ok (.goto (-18), 3) := by decide +kernel
theorem dX12_most_23 : decode cX12_most 23 = .ok (.iconst 0, 1) := by decide +kernel
theorem dX12_most_24 : decode cX12_most 24 = .ok (.istore_n 2, 1) := by decide +kernel
theorem dX12_most_25 : decode cX12_most 25 = .ok (.iconst 0, 1) := by decide +kernel
theorem dX12_most_26 : decode cX12_most 26 = .ok (.istore_n 3, 1) := by decide +kernel
theorem dX12_most_27 : decode cX12_most 27 = .ok (.iload_n 3, 1) := by decide +kernel
theorem dX12_most_28 : decode cX12_most 28 = .ok (.iload_n 1, 1) := by decide +kernel
theorem dX12_most_29 : decode cX12_most 29 = .ok (.if_icmp .ge 34, 3) := by decide +kernel
theorem dX12_most_32 : decode cX12_most 32 = .ok (.aload_n 0, 1) := by decide +kernel
theorem dX12_most_33 : decode cX12_most 33 = .ok (.getfield 157, 3) := by decide +kernel
theorem dX12_most_36 : decode cX12_most 36 = .ok (.iload_n 3, 1) := by decide +kernel
theorem dX12_most_37 : decode cX12_most 37 = .ok (.iaload, 1) := by decide +kernel
theorem dX12_most_38 : decode cX12_most 38 = .ok (.iconst (-1), 1) := by decide +kernel
theorem dX12_most_39 : decode cX12_most 39 = .ok (.if_icmp .eq 18, 3) := by decide +kernel
theorem dX12_most_42 : decode cX12_most 42 = .ok (.aload_n 0, 1) := by decide +kernel
theorem dX12_most_43 : decode cX12_most 43 = .ok (.getfield 160, 3) := by decide +kernel
theorem dX12_most_46 : decode cX12_most 46 = .ok (.aload_n 0, 1) := by decide +kernel
theorem dX12_most_47 : decode cX12_most 47 = .ok (.getfield 157, 3) := by decide +kernel
theorem dX12_most_50 : decode cX12_most 50 = .ok (.iload_n 3, 1) := by decide +kernel
theorem dX12_most_51 : decode cX12_most 51 = .ok (.iaload, 1) := by decide +kernel
theorem dX12_most_52 : decode cX12_most 52 = .ok (.iload_n 3, 1) := by decide +kernel
theorem dX12_most_53 : decode cX12_most 53 = .ok (.iastore, 1) := by decide +kernel
theorem dX12_most_54 : decode cX12_most 54 = .ok (.iinc 2 1, 3) := by decide +kernel
theorem dX12_most_57 : decode cX12_most 57 = .ok (.iinc 3 1, 3) := by decide +kernel
theorem dX12_most_60 : decode cX12_most 60 = .ok (.goto (-33), 3) := by decide +kernel
theorem dX12_most_63 : decode cX12_most 63 = .ok (.iload_n 1, 1) := by decide +kernel
theorem dX12_most_64 : decode cX12_most 64 = .ok (.istore_n 3, 1) := by decide +kernel
theorem dX12_most_65 : decode cX12_most 65 = .ok (.iload_n 3, 1) := by decide +kernel
theorem dX12_most_66 : decode cX12_most 66 = .ok (.aload_n 0, 1) := by decide +kernel
theorem dX12_most_67 : decode cX12_most 67 = .ok (.getfield 300, 3) := by decide +kernel
theorem dX12_most_70 : decode cX12_most 70 = .ok (.if_icmp .ge 52, 3) := by decide +kernel
theorem dX12_most_73 : decode cX12_most 73 = .ok (.iconst 0, 1) := by decide +kernel
theorem dX12_most_74 : decode cX12_most 74 = .ok (.istore 4, 2) := by decide +kernel
theorem dX12_most_76 : decode cX12_most 76 = .ok (.iload 4, 2) := by decide +kernel
theorem dX12_most_78 : decode cX12_most 78 = .ok (.aload_n 0, 1) := by decide +kernel
theorem dX12_most_79 : decode cX12_most 79 = .ok (.getfield 257, 3) := by decide +kernel
theorem dX12_most_82 : decode cX12_most 82 = .ok (.if_icmp .ge 17, 3) := by decide +kernel
theorem dX12_most_85 : decode cX12_most 85 = .ok (.aload_n 0, 1) := by decide +kernel
theorem dX12_most_86 : decode cX12_most 86 = .ok (.getfield 163, 3) := by decide +kernel
theorem dX12_most_89 : decode cX12_most 89 = .ok (.iload 4, 2) := by decide +kernel
theorem dX12_most_91 : decode cX12_most 91 = .ok (.iconst 0, 1) := by decide +kernel
theorem dX12_most_92 : decode cX12_most 92 = .ok (.bastore, 1) := by decide +kernel
theorem dX12_most_93 : decode cX12_most 93 = .ok (.iinc 4 1, 3) := by decide +kernel
theorem dX12_most_96 : decode cX12_most 96 = .ok (.goto (-20), 3) := by decide +kernel
theorem dX12_most_99 : decode cX12_most 99 = .ok (.iload_n 2, 1) := by decide +kernel
theorem dX12_most_100 : decode cX12_most 100 = .ok (.aload_n 0, 1) := by decide +kernel
theorem dX12_most_101 : decode cX12_most 101 = .ok (.iload_n 3, 1) := by decide +kernel
theorem dX12_most_102 : decode cX12_most 102 = .ok (.iload_n 1, 1) := by decide +kernel
theorem dX12_most_103 : decode cX12_most 103 = .ok (.invokevirtual 307, 3) := by decide +kernel
theorem dX12_most_106 : decode cX12_most 106 = .ok (.ifCond .eq 7, 3) := by decide +kernel
theorem dX12_most_109 : decode cX12_most 109 = .ok (.iconst 1, 1) := by decide +kernel
theorem dX12_most_110 : decode cX12_most 110 = .ok (.goto 4, 3) := by decide +kernel
theorem dX12_most_113 : decode cX12_most 113 = .ok (.iconst 0, 1) := by decide +kernel
theorem dX12_most_114 : decode cX12_most 114 = .ok (.iadd, 1) := by decide +kernel
theorem dX12_most_115 : decode cX12_most 115 = .ok (.istore_n 2, 1) := by decide +kernel
theorem dX12_most_116 : decode cX12_most 116 = .ok (.iinc 3 1, 3) := by decide +kernel
theorem dX12_most_119 : decode cX12_most 119 = .ok (.goto (-54), 3) := by decide +kernel
theorem dX12_most_122 : decode cX12_most 122 = .ok (.iload_n 2, 1) := by decide +kernel
theorem dX12_most_123 : decode cX12_most 123 = .ok (.ireturn, 1) := by decide +kernel
theorem dX12_isGiven_0 : decode cX12_isGiven 0 = .ok (.iconst 0, 1) := by decide +kernel
theorem dX12_isGiven_1 : decode cX12_isGiven 1 = .ok (.istore_n 3, 1) := by decide +kernel
theorem dX12_isGiven_2 : decode cX12_isGiven 2 = .ok (.iload_n 3, 1) := by decide +kernel
theorem dX12_isGiven_3 : decode cX12_isGiven 3 = .ok (.iload_n 2, 1) := by decide +kernel
theorem dX12_isGiven_4 : decode cX12_isGiven 4 = .ok (.if_icmp .ge 21, 3) := by decide +kernel
theorem dX12_isGiven_7 : decode cX12_isGiven 7 = .ok (.aload_n 0, 1) := by decide +kernel
theorem dX12_isGiven_8 : decode cX12_isGiven 8 = .ok (.getfield 157, 3) := by decide +kernel
theorem dX12_isGiven_11 : decode cX12_isGiven 11 = .ok (.iload_n 3, 1) := by decide +kernel
theorem dX12_isGiven_12 : decode cX12_isGiven 12 = .ok (.iaload, 1) := by decide +kernel
theorem dX12_isGiven_13 : decode cX12_isGiven 13 = .ok (.iload_n 1, 1) := by decide +kernel
theorem dX12_isGiven_14 : decode cX12_isGiven 14 = .ok (.if_icmp .ne 5, 3) := by decide +kernel
theorem dX12_isGiven_17 : decode cX12_isGiven 17 = .ok (.iconst 1, 1) := by decide +kernel
theorem dX12_isGiven_18 : decode cX12_isGiven 18 = .ok (.ireturn, 1) := by decide +kernel
theorem dX12_isGiven_19 : decode cX12_isGiven 19 = .ok (.iinc 3 1, 3) := by decide +kernel
theorem dX12_isGiven_22 : decode cX12_isGiven 22 = .ok (.goto (-20), 3) := by decide +kernel
theorem dX12_isGiven_25 : decode cX12_isGiven 25 = .ok (.iconst 0, 1) := by decide +kernel
theorem dX12_isGiven_26 : decode cX12_isGiven 26 = .ok (.ireturn, 1) := by decide +kernel
theorem dX12_giveAll_0 : decode cX12_giveAll 0 = .ok (.aload_n 0, 1) := by decide +kernel
theorem dX12_giveAll_1 : decode cX12_giveAll 1 = .ok (.iconst 0, 1) := by decide +kernel
theorem dX12_giveAll_2 : decode cX12_giveAll 2 = .ok (.invokevirtual 310, 3) := by decide +kernel
theorem dX12_giveAll_5 : decode cX12_giveAll 5 = .ok (.istore_n 1, 1) := by decide +kernel
theorem dX12_giveAll_6 : decode cX12_giveAll 6 = .ok (.iconst 0, 1) := by decide +kernel
theorem dX12_giveAll_7 : decode cX12_giveAll 7 = .ok (.istore_n 2, 1) := by decide +kernel
theorem dX12_giveAll_8 : decode cX12_giveAll 8 = .ok (.iload_n 2, 1) := by decide +kernel
theorem dX12_giveAll_9 : decode cX12_giveAll 9 = .ok (.aload_n 0, 1) := by decide +kernel
theorem dX12_giveAll_10 : decode cX12_giveAll 10 = .ok (.getfield 300, 3) := by decide +kernel
theorem dX12_giveAll_13 : decode cX12_giveAll 13 = .ok (.if_icmp .ge 89, 3) := by decide +kernel
theorem dX12_giveAll_16 : decode cX12_giveAll 16 = .ok (.iconst 0, 1) := by decide +kernel
theorem dX12_giveAll_17 : decode cX12_giveAll 17 = .ok (.istore_n 3, 1) := by decide +kernel
theorem dX12_giveAll_18 : decode cX12_giveAll 18 = .ok (.iconst 0, 1) := by decide +kernel
theorem dX12_giveAll_19 : decode cX12_giveAll 19 = .ok (.istore 4, 2) := by decide +kernel
theorem dX12_giveAll_21 : decode cX12_giveAll 21 = .ok (.iload 4, 2) := by decide +kernel
theorem dX12_giveAll_23 : decode cX12_giveAll 23 = .ok (.aload_n 0, 1) := by decide +kernel
theorem dX12_giveAll_24 : decode cX12_giveAll 24 = .ok (.getfield 257, 3) := by decide +kernel
theorem dX12_giveAll_27 : decode cX12_giveAll 27 = .ok (.if_icmp .ge 58, 3) := by decide +kernel
theorem dX12_giveAll_30 : decode cX12_giveAll 30 = .ok (.iload_n 3, 1) := by decide +kernel
theorem dX12_giveAll_31 : decode cX12_giveAll 31 = .ok (.ifCond .ne 54, 3) := by decide +kernel
theorem dX12_giveAll_34 : decode cX12_giveAll 34 = .ok (.aload_n 0, 1) := by decide +kernel
theorem dX12_giveAll_35 : decode cX12_giveAll 35 = .ok (.iload_n 2, 1) := by decide +kernel
theorem dX12_giveAll_36 : decode cX12_giveAll 36 = .ok (.iload 4, 2) := by decide +kernel
theorem dX12_giveAll_38 : decode cX12_giveAll 38 = .ok (.invokevirtual 303, 3) := by decide +kernel
theorem dX12_giveAll_41 : decode cX12_giveAll 41 = .ok (.ifCond .eq 38, 3) := by decide +kernel
theorem dX12_giveAll_44 : decode cX12_giveAll 44 = .ok (.aload_n 0, 1) := by decide +kernel
theorem dX12_giveAll_45 : decode cX12_giveAll 45 = .ok (.iload 4, 2) := by decide +kernel
theorem dX12_giveAll_47 : decode cX12_giveAll 47 = .ok (.iload_n 2, 1) := by decide +kernel
theorem dX12_giveAll_48 : decode cX12_giveAll 48 = .ok (.invokevirtual 313, 3) := by decide +kernel
theorem dX12_giveAll_51 : decode cX12_giveAll 51 = .ok (.ifCond .ne 28, 3) := by decide +kernel
theorem dX12_giveAll_54 : decode cX12_giveAll 54 = .ok (.aload_n 0, 1) := by decide +kernel
theorem dX12_giveAll_55 : decode cX12_giveAll 55 = .ok (.getfield 157, 3) := by decide +kernel
theorem dX12_giveAll_58 : decode cX12_giveAll 58 = .ok (.iload_n 2, 1) := by decide +kernel
theorem dX12_giveAll_59 : decode cX12_giveAll 59 = .ok (.iload 4, 2) := by decide +kernel
theorem dX12_giveAll_61 : decode cX12_giveAll 61 = .ok (.iastore, 1) := by decide +kernel
theorem dX12_giveAll_62 : decode cX12_giveAll 62 = .ok (.aload_n 0, 1) := by decide +kernel
theorem dX12_giveAll_63 : decode cX12_giveAll 63 = .ok (.iload_n 2, 1) := by decide +kernel
theorem dX12_giveAll_64 : decode cX12_giveAll 64 = .ok (.iconst 1, 1) := by decide +kernel
theorem dX12_giveAll_65 : decode cX12_giveAll 65 = .ok (.iadd, 1) := by decide +kernel
theorem dX12_giveAll_66 : decode cX12_giveAll 66 = .ok (.invokevirtual 310, 3) := by decide +kernel
theorem dX12_giveAll_69 : decode cX12_giveAll 69 = .ok (.iload_n 1, 1) := by decide +kernel
theorem dX12_giveAll_70 : decode cX12_giveAll 70 = .ok (.if_icmp .ne 7, 3) := by decide +kernel
theorem dX12_giveAll_73 : decode cX12_giveAll 73 = .ok (.iconst 1, 1) := by decide +kernel
theorem dX12_giveAll_74 : decode cX12_giveAll 74 = .ok (.goto 4, 3) := by decide +kernel
theorem dX12_giveAll_77 : decode cX12_giveAll 77 = .ok (.iconst 0, 1) := by decide +kernel
theorem dX12_giveAll_78 : decode cX12_giveAll 78 = .ok (.istore_n 3, 1) := by decide +kernel
theorem dX12_giveAll_79 : decode cX12_giveAll 79 = .ok (.iinc 4 1, 3) := by decide +kernel
theorem dX12_giveAll_82 : decode cX12_giveAll 82 = .ok (.goto (-61), 3) := by decide +kernel
theorem dX12_giveAll_85 : decode cX12_giveAll 85 = .ok (.iload_n 3, 1) := by decide +kernel
theorem dX12_giveAll_86 : decode cX12_giveAll 86 = .ok (.ifCond .ne 10, 3) := by decide +kernel
theorem dX12_giveAll_89 : decode cX12_giveAll 89 = .ok (.aload_n 0, 1) := by decide +kernel
theorem dX12_giveAll_90 : decode cX12_giveAll 90 = .ok (.getfield 157, 3) := by decide +kernel
theorem dX12_giveAll_93 : decode cX12_giveAll 93 = .ok (.iload_n 2, 1) := by decide +kernel
theorem dX12_giveAll_94 : decode cX12_giveAll 94 = .ok (.iconst (-1), 1) := by decide +kernel
theorem dX12_giveAll_95 : decode cX12_giveAll 95 = .ok (.iastore, 1) := by decide +kernel
theorem dX12_giveAll_96 : decode cX12_giveAll 96 = .ok (.iinc 2 1, 3) := by decide +kernel
theorem dX12_giveAll_99 : decode cX12_giveAll 99 = .ok (.goto (-91), 3) := by decide +kernel
theorem dX12_giveAll_102 : decode cX12_giveAll 102 = .ok (.iload_n 1, 1) := by decide +kernel
theorem dX12_giveAll_103 : decode cX12_giveAll 103 = .ok (.ireturn, 1) := by decide +kernel
theorem dX12_met_0 : decode cX12_met 0 = .ok (.iload_n 1, 1) := by decide +kernel
theorem dX12_met_1 : decode cX12_met 1 = .ok (.iconst 0, 1) := by decide +kernel
theorem dX12_met_2 : decode cX12_met 2 = .ok (.aload_n 0, 1) := by decide +kernel
theorem dX12_met_3 : decode cX12_met 3 = .ok (.getfield 300, 3) := by decide +kernel
theorem dX12_met_6 : decode cX12_met 6 = .ok (.iconst 1, 1) := by decide +kernel
theorem dX12_met_7 : decode cX12_met 7 = .ok (.isub, 1) := by decide +kernel
theorem dX12_met_8 : decode cX12_met 8 = .ok (.invokestatic 169, 3) := by decide +kernel
theorem dX12_met_11 : decode cX12_met 11 = .ok (.ifCond .ne 5, 3) := by decide +kernel
theorem dX12_met_14 : decode cX12_met 14 = .ok (.iconst (-1), 1) := by decide +kernel
theorem dX12_met_15 : decode cX12_met 15 = .ok (.ireturn, 1) := by decide +kernel
theorem dX12_met_16 : decode cX12_met 16 = .ok (.aload_n 0, 1) := by decide +kernel
theorem dX12_met_17 : decode cX12_met 17 = .ok (.invokevirtual 316, 3) := by decide +kernel
theorem dX12_met_20 : decode cX12_met 20 = .ok (.pop, 1) := by decide +kernel
theorem dX12_met_21 : decode cX12_met 21 = .ok (.aload_n 0, 1) := by decide +kernel
theorem dX12_met_22 : decode cX12_met 22 = .ok (.getfield 157, 3) := by decide +kernel
theorem dX12_met_25 : decode cX12_met 25 = .ok (.iload_n 1, 1) := by decide +kernel
theorem dX12_met_26 : decode cX12_met 26 = .ok (.iaload, 1) := by decide +kernel
theorem dX12_met_27 : decode cX12_met 27 = .ok (.ireturn, 1) := by decide +kernel
theorem dX12_couldHave_0 : decode cX12_couldHave 0 = .ok (.iconst 0, 1) := by decide +kernel
theorem dX12_couldHave_1 : decode cX12_couldHave 1 = .ok (.istore_n 2, 1) := by decide +kernel
theorem dX12_couldHave_2 : decode cX12_couldHave 2 = .ok (.iconst 0, 1) := by decide +kernel
theorem dX12_couldHave_3 : decode cX12_couldHave 3 = .ok (.istore_n 3, 1) := by decide +kernel
theorem dX12_couldHave_4 : decode cX12_couldHave 4 = .ok (.iload_n 3, 1) := by decide +kernel
theorem dX12_couldHave_5 : decode cX12_couldHave 5 = .ok (.aload_n 0, 1) := by decide +kernel
theorem dX12_couldHave_6 : decode cX12_couldHave 6 = .ok (.getfield 257, 3) := by decide +kernel
theorem dX12_couldHave_9 : decode cX12_couldHave 9 = .ok (.if_icmp .ge 75, 3) := by decide +kernel
theorem dX12_couldHave_12 : decode cX12_couldHave 12 = .ok (.iconst 0, 1) := by decide +kernel
theorem dX12_couldHave_13 : decode cX12_couldHave 13 = .ok (.istore 4, 2) := by decide +kernel
theorem dX12_couldHave_15 : decode cX12_couldHave 15 = .ok (.iconst 0, 1) := by decide +kernel
theorem dX12_couldHave_16 : decode cX12_couldHave 16 = .ok (.istore 5, 2) := by decide +kernel
theorem dX12_couldHave_18 : decode cX12_couldHave 18 = .ok (.iload 5, 2) := by decide +kernel
theorem dX12_couldHave_20 : decode cX12_couldHave 20 = .ok (.aload_n 0, 1) := by decide +kernel
theorem dX12_couldHave_21 : decode cX12_couldHave 21 = .ok (.getfield 300, 3) := by decide +kernel
theorem dX12_couldHave_24 : decode cX12_couldHave 24 = .ok (.if_icmp .ge 41, 3) := by decide +kernel
theorem dX12_couldHave_27 : decode cX12_couldHave 27 = .ok (.iload 4, 2) := by decide +kernel
theorem dX12_couldHave_29 : decode cX12_couldHave 29 = .ok (.ifCond .ne 23, 3) := by decide +kernel
theorem dX12_couldHave_32 : decode cX12_couldHave 32 = .ok (.iload_n 1, 1) := by decide +kernel
theorem dX12_couldHave_33 : decode cX12_couldHave 33 = .ok (.iload 5, 2) := by decide +kernel
theorem dX12_couldHave_35 : decode cX12_couldHave 35 = .ok (.ishr, 1) := by decide +kernel
theorem dX12_couldHave_36 : decode cX12_couldHave 36 = .ok (.iconst 1, 1) := by decide +kernel
theorem dX12_couldHave_37 : decode cX12_couldHave 37 = .ok (.iand, 1) := by decide +kernel
theorem dX12_couldHave_38 : decode cX12_couldHave 38 = .ok (.iconst 1, 1) := by decide +kernel
theorem dX12_couldHave_39 : decode cX12_couldHave 39 = .ok (.if_icmp .ne 17, 3) := by decide +kernel
theorem dX12_couldHave_42 : decode cX12_couldHave 42 = .ok (.aload_n 0, 1) := by decide +kernel
theorem dX12_couldHave_43 : decode cX12_couldHave 43 = .ok (.iload 5, 2) := by decide +kernel
theorem dX12_couldHave_45 : decode cX12_couldHave 45 = .ok (.iload_n 3, 1) := by decide +kernel
theorem dX12_couldHave_46 : decode cX12_couldHave 46 = .ok (.invokevirtual 303, 3) := by decide +kernel
theorem dX12_couldHave_49 : decode cX12_couldHave 49 = .ok (.ifCond .eq 7, 3) := by decide +kernel
theorem dX12_couldHave_52 : decode cX12_couldHave 52 = .ok (.iconst 1, 1) := by decide +kernel
theorem dX12_couldHave_53 : decode cX12_couldHave 53 = .ok (.goto 4, 3) := by decide +kernel
theorem dX12_couldHave_56 : decode cX12_couldHave 56 = .ok (.iconst 0, 1) := by decide +kernel
theorem dX12_couldHave_57 : decode cX12_couldHave 57 = .ok (.istore 4, 2) := by decide +kernel
theorem dX12_couldHave_59 : decode cX12_couldHave 59 = .ok (.iinc 5 1, 3) := by decide +kernel
theorem dX12_couldHave_62 : decode cX12_couldHave 62 = .ok (.goto (-44), 3) := by decide +kernel
theorem dX12_couldHave_65 : decode cX12_couldHave 65 = .ok (.iload_n 2, 1) := by decide +kernel
theorem dX12_couldHave_66 : decode cX12_couldHave 66 = .ok (.iload 4, 2) := by decide +kernel
theorem dX12_couldHave_68 : decode cX12_couldHave 68 = .ok (.ifCond .eq 7, 3) := by decide +kernel
theorem dX12_couldHave_71 : decode cX12_couldHave 71 = .ok (.iconst 1, 1) := by decide +kernel
theorem dX12_couldHave_72 : decode cX12_couldHave 72 = .ok (.goto 4, 3) := by decide +kernel
theorem dX12_couldHave_75 : decode cX12_couldHave 75 = .ok (.iconst 0, 1) := by decide +kernel
theorem dX12_couldHave_76 : decode cX12_couldHave 76 = .ok (.iadd, 1) := by decide +kernel
theorem dX12_couldHave_77 : decode cX12_couldHave 77 = .ok (.istore_n 2, 1) := by decide +kernel
theorem dX12_couldHave_78 : decode cX12_couldHave 78 = .ok (.iinc 3 1, 3) := by decide +kernel
theorem dX12_couldHave_81 : decode cX12_couldHave 81 = .ok (.goto (-77), 3) := by decide +kernel
theorem dX12_couldHave_84 : decode cX12_couldHave 84 = .ok (.iload_n 2, 1) := by decide +kernel
theorem dX12_couldHave_85 : decode cX12_couldHave 85 = .ok (.ireturn, 1) := by decide +kernel
theorem dX12_want_0 : decode cX12_want 0 = .ok (.aload_n 0, 1) := by decide +kernel
theorem dX12_want_1 : decode cX12_want 1 = .ok (.iconst 0, 1) := by decide +kernel
theorem dX12_want_2 : decode cX12_want 2 = .ok (.invokevirtual 310, 3) := by decide +kernel
theorem dX12_want_5 : decode cX12_want 5 = .ok (.aload_n 0, 1) := by decide +kernel
theorem dX12_want_6 : decode cX12_want 6 = .ok (.getfield 300, 3) := by decide +kernel
theorem dX12_want_9 : decode cX12_want 9 = .ok (.if_icmp .ne 5, 3) := by decide +kernel
theorem dX12_want_12 : decode cX12_want 12 = .ok (.iconst 0, 1) := by decide +kernel
theorem dX12_want_13 : decode cX12_want 13 = .ok (.ireturn, 1) := by decide +kernel
theorem dX12_want_14 : decode cX12_want 14 = .ok (.iconst 1, 1) := by decide +kernel
theorem dX12_want_15 : decode cX12_want 15 = .ok (.istore_n 1, 1) := by decide +kernel
theorem dX12_want_16 : decode cX12_want 16 = .ok (.iload_n 1, 1) := by decide +kernel
theorem dX12_want_17 : decode cX12_want 17 = .ok (.iconst 1, 1) := by decide +kernel
theorem dX12_want_18 : decode cX12_want 18 = .ok (.aload_n 0, 1) := by decide +kernel
theorem dX12_want_19 : decode cX12_want 19 = .ok (.getfield 300, 3) := by decide +kernel
theorem dX12_want_22 : decode cX12_want 22 = .ok (.ishl, 1) := by decide +kernel
theorem dX12_want_23 : decode cX12_want 23 = .ok (.if_icmp .ge 23, 3) := by decide +kernel
theorem dX12_want_26 : decode cX12_want 26 = .ok (.iload_n 1, 1) := by decide +kernel
theorem dX12_want_27 : decode cX12_want 27 = .ok (.invokestatic 319, 3) := by decide +kernel
theorem dX12_want_30 : decode cX12_want 30 = .ok (.aload_n 0, 1) := by decide +kernel
theorem dX12_want_31 : decode cX12_want 31 = .ok (.iload_n 1, 1) := by decide +kernel
theorem dX12_want_32 : decode cX12_want 32 = .ok (.invokevirtual 324, 3) := by decide +kernel
theorem dX12_want_35 : decode cX12_want 35 = .ok (.if_icmp .le 5, 3) := by decide +kernel
theorem dX12_want_38 : decode cX12_want 38 = .ok (.iload_n 1, 1) := by decide +kernel
theorem dX12_want_39 : decode cX12_want 39 = .ok (.ireturn, 1) := by decide +kernel
theorem dX12_want_40 : decode cX12_want 40 = .ok (.iinc 1 1, 3) := by decide +kernel
theorem dX12_want_43 : decode cX12_want 43 = .ok (.goto (-27), 3) := by decide +kernel
theorem dX12_want_46 : decode cX12_want 46 = .ok (.iconst 0, 1) := by decide +kernel
theorem dX12_want_47 : decode cX12_want 47 = .ok (.ireturn, 1) := by decide +kernel
theorem dX12_ground_0 : decode cX12_ground 0 = .ok (.aload_n 0, 1) := by decide +kernel
theorem dX12_ground_1 : decode cX12_ground 1 = .ok (.iload_n 1, 1) := by decide +kernel
theorem dX12_ground_2 : decode cX12_ground 2 = .ok (.invokevirtual 178, 3) := by decide +kernel
theorem dX12_ground_5 : decode cX12_ground 5 = .ok (.ifCond .ne 5, 3) := by decide +kernel
theorem dX12_ground_8 : decode cX12_ground 8 = .ok (.iconst (-1), 1) := by decide +kernel
theorem dX12_ground_9 : decode cX12_ground 9 = .ok (.ireturn, 1) := by decide +kernel
theorem dX12_ground_10 : decode cX12_ground 10 = .ok (.iload_n 2, 1) := by decide +kernel
theorem dX12_ground_11 : decode cX12_ground 11 = .ok (.tableswitch 90 0 6 #[41, 48, 55, 62, 69, 76, 83], 41) := by decide +kernel
theorem dX12_ground_52 : decode cX12_ground 52 = .ok (.aload_n 0, 1) := by decide +kernel
theorem dX12_ground_53 : decode cX12_ground 53 = .ok (.getfield 9, 3) := by decide +kernel
theorem dX12_ground_56 : decode cX12_ground 56 = .ok (.iload_n 1, 1) := by decide +kernel
theorem dX12_ground_57 : decode cX12_ground 57 = .ok (.iaload, 1) := by decide +kernel
theorem dX12_ground_58 : decode cX12_ground 58 = .ok (.ireturn, 1) := by decide +kernel
theorem dX12_ground_59 : decode cX12_ground 59 = .ok (.aload_n 0, 1) := by decide +kernel
theorem dX12_ground_60 : decode cX12_ground 60 = .ok (.getfield 13, 3) := by decide +kernel
theorem dX12_ground_63 : decode cX12_ground 63 = .ok (.iload_n 1, 1) := by decide +kernel
theorem dX12_ground_64 : decode cX12_ground 64 = .ok (.iaload, 1) := by decide +kernel
theorem dX12_ground_65 : decode cX12_ground 65 = .ok (.ireturn, 1) := by decide +kernel
theorem dX12_ground_66 : decode cX12_ground 66 = .ok (.aload_n 0, 1) := by decide +kernel
theorem dX12_ground_67 : decode cX12_ground 67 = .ok (.getfield 16, 3) := by decide +kernel
theorem dX12_ground_70 : decode cX12_ground 70 = .ok (.iload_n 1, 1) := by decide +kernel
theorem dX12_ground_71 : decode cX12_ground 71 = .ok (.iaload, 1) := by decide +kernel
theorem dX12_ground_72 : decode cX12_ground 72 = .ok (.ireturn, 1) := by decide +kernel
theorem dX12_ground_73 : decode cX12_ground 73 = .ok (.aload_n 0, 1) := by decide +kernel
theorem dX12_ground_74 : decode cX12_ground 74 = .ok (.getfield 19, 3) := by decide +kernel
theorem dX12_ground_77 : decode cX12_ground 77 = .ok (.iload_n 1, 1) := by decide +kernel
theorem dX12_ground_78 : decode cX12_ground 78 = .ok (.iaload, 1) := by decide +kernel
theorem dX12_ground_79 : decode cX12_ground 79 = .ok (.ireturn, 1) := by decide +kernel
theorem dX12_ground_80 : decode cX12_ground 80 = .ok (.aload_n 0, 1) := by decide +kernel
theorem dX12_ground_81 : decode cX12_ground 81 = .ok (.getfield 22, 3) := by decide +kernel
theorem dX12_ground_84 : decode cX12_ground 84 = .ok (.iload_n 1, 1) := by decide +kernel
theorem dX12_ground_85 : decode cX12_ground 85 = .ok (.iaload, 1) := by decide +kernel
theorem dX12_ground_86 : decode cX12_ground 86 = .ok (.ireturn, 1) := by decide +kernel
theorem dX12_ground_87 : decode cX12_ground 87 = .ok (.aload_n 0, 1) := by decide +kernel
theorem dX12_ground_88 : decode cX12_ground 88 = .ok (.getfield 25, 3) := by decide +kernel
theorem dX12_ground_91 : decode cX12_ground 91 = .ok (.iload_n 1, 1) := by decide +kernel
theorem dX12_ground_92 : decode cX12_ground 92 = .ok (.iaload, 1) := by decide +kernel
theorem dX12_ground_93 : decode cX12_ground 93 = .ok (.ireturn, 1) := by decide +kernel
theorem dX12_ground_94 : decode cX12_ground 94 = .ok (.aload_n 0, 1) := by decide +kernel
theorem dX12_ground_95 : decode cX12_ground 95 = .ok (.getfield 28, 3) := by decide +kernel
theorem dX12_ground_98 : decode cX12_ground 98 = .ok (.iload_n 1, 1) := by decide +kernel
theorem dX12_ground_99 : decode cX12_ground 99 = .ok (.iaload, 1) := by decide +kernel
theorem dX12_ground_100 : decode cX12_ground 100 = .ok (.ireturn, 1) := by decide +kernel
theorem dX12_ground_101 : decode cX12_ground 101 = .ok (.iconst (-1), 1) := by decide +kernel
theorem dX12_ground_102 : decode cX12_ground 102 = .ok (.ireturn, 1) := by decide +kernel
theorem dX12_count_0 : decode cX12_count 0 = .ok (.iload_n 1, 1) := by decide +kernel
theorem dX12_count_1 : decode cX12_count 1 = .ok (.tableswitch 109 0 9 #[55, 60, 65, 70, 75, 80, 85, 91, 96, 104], 55) := by decide +kernel
theorem dX12_count_56 : decode cX12_count 56 = .ok (.aload_n 0, 1) := by decide +kernel
theorem dX12_count_57 : decode cX12_count 57 = .ok (.getfield 191, 3) := by decide +kernel
theorem dX12_count_60 : decode cX12_count 60 = .ok (.ireturn, 1) := by decide +kernel
theorem dX12_count_61 : decode cX12_count 61 = .ok (.aload_n 0, 1) := by decide +kernel
theorem dX12_count_62 : decode cX12_count 62 = .ok (.getfield 166, 3) := by decide +kernel
theorem dX12_count_65 : decode cX12_count 65 = .ok (.ireturn, 1) := by decide +kernel
theorem dX12_count_66 : decode cX12_count 66 = .ok (.aload_n 0, 1) := by decide +kernel
theorem dX12_count_67 : decode cX12_count 67 = .ok (.getfield 257, 3) := by decide +kernel
theorem dX12_count_70 : decode cX12_count 70 = .ok (.ireturn, 1) := by decide +kernel
theorem dX12_count_71 : decode cX12_count 71 = .ok (.aload_n 0, 1) := by decide +kernel
theorem dX12_count_72 : decode cX12_count 72 = .ok (.getfield 294, 3) := by decide +kernel
theorem dX12_count_75 : decode cX12_count 75 = .ok (.ireturn, 1) := by decide +kernel
theorem dX12_count_76 : decode cX12_count 76 = .ok (.aload_n 0, 1) := by decide +kernel
theorem dX12_count_77 : decode cX12_count 77 = .ok (.getfield 287, 3) := by decide +kernel
theorem dX12_count_80 : decode cX12_count 80 = .ok (.ireturn, 1) := by decide +kernel
theorem dX12_count_81 : decode cX12_count 81 = .ok (.aload_n 0, 1) := by decide +kernel
theorem dX12_count_82 : decode cX12_count 82 = .ok (.getfield 300, 3) := by decide +kernel
theorem dX12_count_85 : decode cX12_count 85 = .ok (.ireturn, 1) := by decide +kernel
theorem dX12_count_86 : decode cX12_count 86 = .ok (.aload_n 0, 1) := by decide +kernel
theorem dX12_count_87 : decode cX12_count 87 = .ok (.iconst 0, 1) := by decide +kernel
theorem dX12_count_88 : decode cX12_count 88 = .ok (.invokevirtual 310, 3) := by decide +kernel
theorem dX12_count_91 : decode cX12_count 91 = .ok (.ireturn, 1) := by decide +kernel
theorem dX12_count_92 : decode cX12_count 92 = .ok (.aload_n 0, 1) := by decide +kernel
theorem dX12_count_93 : decode cX12_count 93 = .ok (.getfield 234, 3) := by decide +kernel
theorem dX12_count_96 : decode cX12_count 96 = .ok (.ireturn, 1) := by decide +kernel
theorem dX12_count_97 : decode cX12_count 97 = .ok (.aload_n 0, 1) := by decide +kernel
theorem dX12_count_98 : decode cX12_count 98 = .ok (.getfield 31, 3) := by decide +kernel
theorem dX12_count_101 : decode cX12_count 101 = .ok (.invokestatic 195, 3) := by decide +kernel
theorem dX12_count_104 : decode cX12_count 104 = .ok (.ireturn, 1) := by decide +kernel
theorem dX12_count_105 : decode cX12_count 105 = .ok (.aload_n 0, 1) := by decide +kernel
theorem dX12_count_106 : decode cX12_count 106 = .ok (.getfield 264, 3) := by decide +kernel
theorem dX12_count_109 : decode cX12_count 109 = .ok (.ireturn, 1) := by decide +kernel
theorem dX12_count_110 : decode cX12_count 110 = .ok (.iconst (-1), 1) := by decide +kernel
theorem dX12_count_111 : decode cX12_count 111 = .ok (.ireturn, 1) := by decide +kernel
theorem dJ6_bitCount_0f7a4_0 : decode cJ6_bitCount_0f7a4 0 = .ok (.iload_n 0, 1) := by decide +kernel
theorem dJ6_bitCount_0f7a4_1 : decode cJ6_bitCount_0f7a4 1 = .ok (.iload_n 0, 1) := by decide +kernel
theorem dJ6_bitCount_0f7a4_2 : decode cJ6_bitCount_0f7a4 2 = .ok (.iconst 1, 1) := by decide +kernel
theorem dJ6_bitCount_0f7a4_3 : decode cJ6_bitCount_0f7a4 3 = .ok (.iushr, 1) := by decide +kernel
theorem dJ6_bitCount_0f7a4_4 : decode cJ6_bitCount_0f7a4 4 = .ok (.ldc_w 265, 3) := by decide +kernel
theorem dJ6_bitCount_0f7a4_7 : decode cJ6_bitCount_0f7a4 7 = .ok (.iand, 1) := by decide +kernel
theorem dJ6_bitCount_0f7a4_8 : decode cJ6_bitCount_0f7a4 8 = .ok (.isub, 1) := by decide +kernel
theorem dJ6_bitCount_0f7a4_9 : decode cJ6_bitCount_0f7a4 9 = .ok (.istore_n 0, 1) := by decide +kernel
theorem dJ6_bitCount_0f7a4_10 : decode cJ6_bitCount_0f7a4 10 = .ok (.iload_n 0, 1) := by decide +kernel
theorem dJ6_bitCount_0f7a4_11 : decode cJ6_bitCount_0f7a4 11 = .ok (.ldc_w 266, 3) := by decide +kernel
theorem dJ6_bitCount_0f7a4_14 : decode cJ6_bitCount_0f7a4 14 = .ok (.iand, 1) := by decide +kernel
theorem dJ6_bitCount_0f7a4_15 : decode cJ6_bitCount_0f7a4 15 = .ok (.iload_n 0, 1) := by decide +kernel
theorem dJ6_bitCount_0f7a4_16 : decode cJ6_bitCount_0f7a4 16 = .ok (.iconst 2, 1) := by decide +kernel
theorem dJ6_bitCount_0f7a4_17 : decode cJ6_bitCount_0f7a4 17 = .ok (.iushr, 1) := by decide +kernel
theorem dJ6_bitCount_0f7a4_18 : decode cJ6_bitCount_0f7a4 18 = .ok (.ldc_w 266, 3) := by decide +kernel
theorem dJ6_bitCount_0f7a4_21 : decode cJ6_bitCount_0f7a4 21 = .ok (.iand, 1) := by decide +kernel
theorem dJ6_bitCount_0f7a4_22 : decode cJ6_bitCount_0f7a4 22 = .ok (.iadd, 1) := by decide +kernel
theorem dJ6_bitCount_0f7a4_23 : decode cJ6_bitCount_0f7a4 23 = .ok (.istore_n 0, 1) := by decide +kernel
theorem dJ6_bitCount_0f7a4_24 : decode cJ6_bitCount_0f7a4 24 = .ok (.iload_n 0, 1) := by decide +kernel
theorem dJ6_bitCount_0f7a4_25 : decode cJ6_bitCount_0f7a4 25 = .ok (.iload_n 0, 1) := by decide +kernel
theorem dJ6_bitCount_0f7a4_26 : decode cJ6_bitCount_0f7a4 26 = .ok (.iconst 4, 1) := by decide +kernel
theorem dJ6_bitCount_0f7a4_27 : decode cJ6_bitCount_0f7a4 27 = .ok (.iushr, 1) := by decide +kernel
theorem dJ6_bitCount_0f7a4_28 : decode cJ6_bitCount_0f7a4 28 = .ok (.iadd, 1) := by decide +kernel
theorem dJ6_bitCount_0f7a4_29 : decode cJ6_bitCount_0f7a4 29 = .ok (.ldc_w 267, 3) := by decide +kernel
theorem dJ6_bitCount_0f7a4_32 : decode cJ6_bitCount_0f7a4 32 = .ok (.iand, 1) := by decide +kernel
theorem dJ6_bitCount_0f7a4_33 : decode cJ6_bitCount_0f7a4 33 = .ok (.istore_n 0, 1) := by decide +kernel
theorem dJ6_bitCount_0f7a4_34 : decode cJ6_bitCount_0f7a4 34 = .ok (.iload_n 0, 1) := by decide +kernel
theorem dJ6_bitCount_0f7a4_35 : decode cJ6_bitCount_0f7a4 35 = .ok (.iload_n 0, 1) := by decide +kernel
theorem dJ6_bitCount_0f7a4_36 : decode cJ6_bitCount_0f7a4 36 = .ok (.bipush 8, 2) := by decide +kernel
theorem dJ6_bitCount_0f7a4_38 : decode cJ6_bitCount_0f7a4 38 = .ok (.iushr, 1) := by decide +kernel
theorem dJ6_bitCount_0f7a4_39 : decode cJ6_bitCount_0f7a4 39 = .ok (.iadd, 1) := by decide +kernel
theorem dJ6_bitCount_0f7a4_40 : decode cJ6_bitCount_0f7a4 40 = .ok (.istore_n 0, 1) := by decide +kernel
theorem dJ6_bitCount_0f7a4_41 : decode cJ6_bitCount_0f7a4 41 = .ok (.iload_n 0, 1) := by decide +kernel
theorem dJ6_bitCount_0f7a4_42 : decode cJ6_bitCount_0f7a4 42 = .ok (.iload_n 0, 1) := by decide +kernel
theorem dJ6_bitCount_0f7a4_43 : decode cJ6_bitCount_0f7a4 43 = .ok (.bipush 16, 2) := by decide +kernel
theorem dJ6_bitCount_0f7a4_45 : decode cJ6_bitCount_0f7a4 45 = .ok (.iushr, 1) := by decide +kernel
theorem dJ6_bitCount_0f7a4_46 : decode cJ6_bitCount_0f7a4 46 = .ok (.iadd, 1) := by decide +kernel
theorem dJ6_bitCount_0f7a4_47 : decode cJ6_bitCount_0f7a4 47 = .ok (.istore_n 0, 1) := by decide +kernel
theorem dJ6_bitCount_0f7a4_48 : decode cJ6_bitCount_0f7a4 48 = .ok (.iload_n 0, 1) := by decide +kernel
theorem dJ6_bitCount_0f7a4_49 : decode cJ6_bitCount_0f7a4 49 = .ok (.bipush 63, 2) := by decide +kernel
theorem dJ6_bitCount_0f7a4_51 : decode cJ6_bitCount_0f7a4 51 = .ok (.iand, 1) := by decide +kernel
theorem dJ6_bitCount_0f7a4_52 : decode cJ6_bitCount_0f7a4 52 = .ok (.ireturn, 1) := by decide +kernel
theorem dJ9_max_7cf53_0 : decode cJ9_max_7cf53 0 = .ok (.iload_n 0, 1) := by decide +kernel
theorem dJ9_max_7cf53_1 : decode cJ9_max_7cf53 1 = .ok (.iload_n 1, 1) := by decide +kernel
theorem dJ9_max_7cf53_2 : decode cJ9_max_7cf53 2 = .ok (.if_icmp .lt 7, 3) := by decide +kernel
theorem dJ9_max_7cf53_5 : decode cJ9_max_7cf53 5 = .ok (.iload_n 0, 1) := by decide +kernel
theorem dJ9_max_7cf53_6 : decode cJ9_max_7cf53 6 = .ok (.goto 4, 3) := by decide +kernel
theorem dJ9_max_7cf53_9 : decode cJ9_max_7cf53 9 = .ok (.iload_n 1, 1) := by decide +kernel
theorem dJ9_max_7cf53_10 : decode cJ9_max_7cf53 10 = .ok (.ireturn, 1) := by decide +kernel
theorem dJ9_min_7cf53_0 : decode cJ9_min_7cf53 0 = .ok (.iload_n 0, 1) := by decide +kernel
theorem dJ9_min_7cf53_1 : decode cJ9_min_7cf53 1 = .ok (.iload_n 1, 1) := by decide +kernel
theorem dJ9_min_7cf53_2 : decode cJ9_min_7cf53 2 = .ok (.if_icmp .gt 7, 3) := by decide +kernel
theorem dJ9_min_7cf53_5 : decode cJ9_min_7cf53 5 = .ok (.iload_n 0, 1) := by decide +kernel
theorem dJ9_min_7cf53_6 : decode cJ9_min_7cf53 6 = .ok (.goto 4, 3) := by decide +kernel
theorem dJ9_min_7cf53_9 : decode cJ9_min_7cf53 9 = .ok (.iload_n 1, 1) := by decide +kernel
theorem dJ9_min_7cf53_10 : decode cJ9_min_7cf53 10 = .ok (.ireturn, 1) := by decide +kernel
theorem dJ7_fill_53178_0 : decode cJ7_fill_53178 0 = .ok (.iconst 0, 1) := by decide +kernel
theorem dJ7_fill_53178_1 : decode cJ7_fill_53178 1 = .ok (.istore_n 2, 1) := by decide +kernel
theorem dJ7_fill_53178_2 : decode cJ7_fill_53178 2 = .ok (.aload_n 0, 1) := by decide +kernel
theorem dJ7_fill_53178_3 : decode cJ7_fill_53178 3 = .ok (.arraylength, 1) := by decide +kernel
theorem dJ7_fill_53178_4 : decode cJ7_fill_53178 4 = .ok (.istore_n 3, 1) := by decide +kernel
theorem dJ7_fill_53178_5 : decode cJ7_fill_53178 5 = .ok (.iload_n 2, 1) := by decide +kernel
theorem dJ7_fill_53178_6 : decode cJ7_fill_53178 6 = .ok (.iload_n 3, 1) := by decide +kernel
theorem dJ7_fill_53178_7 : decode cJ7_fill_53178 7 = .ok (.if_icmp .ge 13, 3) := by decide +kernel
theorem dJ7_fill_53178_10 : decode cJ7_fill_53178 10 = .ok (.aload_n 0, 1) := by decide +kernel
theorem dJ7_fill_53178_11 : decode cJ7_fill_53178 11 = .ok (.iload_n 2, 1) := by decide +kernel
theorem dJ7_fill_53178_12 : decode cJ7_fill_53178 12 = .ok (.iload_n 1, 1) := by decide +kernel
theorem dJ7_fill_53178_13 : decode cJ7_fill_53178 13 = .ok (.iastore, 1) := by decide +kernel
theorem dJ7_fill_53178_14 : decode cJ7_fill_53178 14 = .ok (.iinc 2 1, 3) := by decide +kernel
theorem dJ7_fill_53178_17 : decode cJ7_fill_53178 17 = .ok (.goto (-12), 3) := by decide +kernel
theorem dJ7_fill_53178_20 : decode cJ7_fill_53178 20 = .ok (.return_, 1) := by decide +kernel
theorem dJ7_copyOf_59c91_0 : decode cJ7_copyOf_59c91 0 = .ok (.iload_n 1, 1) := by decide +kernel
theorem dJ7_copyOf_59c91_1 : decode cJ7_copyOf_59c91 1 = .ok (.aload_n 0, 1) := by decide +kernel
theorem dJ7_copyOf_59c91_2 : decode cJ7_copyOf_59c91 2 = .ok (.arraylength, 1) := by decide +kernel
theorem dJ7_copyOf_59c91_3 : decode cJ7_copyOf_59c91 3 = .ok (.if_icmp .ne 11, 3) := by decide +kernel
theorem dJ7_copyOf_59c91_6 : decode cJ7_copyOf_59c91 6 = .ok (.aload_n 0, 1) := by decide +kernel
theorem dJ7_copyOf_59c91_7 : decode cJ7_copyOf_59c91 7 = .ok (.invokevirtual 316, 3) := by decide +kernel
theorem dJ7_copyOf_59c91_10 : decode cJ7_copyOf_59c91 10 = .ok (.checkcast 317, 3) := by decide +kernel
theorem dJ7_copyOf_59c91_13 : decode cJ7_copyOf_59c91 13 = .ok (.areturn, 1) := by decide +kernel
theorem dJ7_copyOf_59c91_14 : decode cJ7_copyOf_59c91 14 = .ok (.iload_n 1, 1) := by decide +kernel
theorem dJ7_copyOf_59c91_15 : decode cJ7_copyOf_59c91 15 = .ok (.newarray .int, 2) := by decide +kernel
theorem dJ7_copyOf_59c91_17 : decode cJ7_copyOf_59c91 17 = .ok (.astore_n 2, 1) := by decide +kernel
theorem dJ7_copyOf_59c91_18 : decode cJ7_copyOf_59c91 18 = .ok (.aload_n 0, 1) := by decide +kernel
theorem dJ7_copyOf_59c91_19 : decode cJ7_copyOf_59c91 19 = .ok (.iconst 0, 1) := by decide +kernel
theorem dJ7_copyOf_59c91_20 : decode cJ7_copyOf_59c91 20 = .ok (.aload_n 2, 1) := by decide +kernel
theorem dJ7_copyOf_59c91_21 : decode cJ7_copyOf_59c91 21 = .ok (.iconst 0, 1) := by decide +kernel
theorem dJ7_copyOf_59c91_22 : decode cJ7_copyOf_59c91 22 = .ok (.aload_n 0, 1) := by decide +kernel
theorem dJ7_copyOf_59c91_23 : decode cJ7_copyOf_59c91 23 = .ok (.arraylength, 1) := by decide +kernel
theorem dJ7_copyOf_59c91_24 : decode cJ7_copyOf_59c91 24 = .ok (.iload_n 1, 1) := by decide +kernel
theorem dJ7_copyOf_59c91_25 : decode cJ7_copyOf_59c91 25 = .ok (.invokestatic 304, 3) := by decide +kernel
theorem dJ7_copyOf_59c91_28 : decode cJ7_copyOf_59c91 28 = .ok (.invokestatic 150, 3) := by decide +kernel
theorem dJ7_copyOf_59c91_31 : decode cJ7_copyOf_59c91 31 = .ok (.aload_n 2, 1) := by decide +kernel
theorem dJ7_copyOf_59c91_32 : decode cJ7_copyOf_59c91 32 = .ok (.areturn, 1) := by decide +kernel
theorem dL_law_0 : decode cL_law 0 = .ok (.new 7, 3) := by decide +kernel
theorem dL_law_3 : decode cL_law 3 = .ok (.dup, 1) := by decide +kernel
theorem dL_law_4 : decode cL_law 4 = .ok (.invokespecial 9, 3) := by decide +kernel
theorem dL_law_7 : decode cL_law 7 = .ok (.astore_n 1, 1) := by decide +kernel
theorem dL_law_8 : decode cL_law 8 = .ok (.new 10, 3) := by decide +kernel
theorem dL_law_11 : decode cL_law 11 = .ok (.dup, 1) := by decide +kernel
theorem dL_law_12 : decode cL_law 12 = .ok (.invokespecial 12, 3) := by decide +kernel
theorem dL_law_15 : decode cL_law 15 = .ok (.astore_n 2, 1) := by decide +kernel
theorem dL_law_16 : decode cL_law 16 = .ok (.iconst 0, 1) := by decide +kernel
theorem dL_law_17 : decode cL_law 17 = .ok (.istore_n 3, 1) := by decide +kernel
theorem dL_law_18 : decode cL_law 18 = .ok (.iload_n 3, 1) := by decide +kernel
theorem dL_law_19 : decode cL_law 19 = .ok (.aload_n 0, 1) := by decide +kernel
theorem dL_law_20 : decode cL_law 20 = .ok (.arraylength, 1) := by decide +kernel
theorem dL_law_21 : decode cL_law 21 = .ok (.bipush 6, 2) := by decide +kernel
theorem dL_law_23 : decode cL_law 23 = .ok (.isub, 1) := by decide +kernel
theorem dL_law_24 : decode cL_law 24 = .ok (.if_icmp .gt 998, 3) := by decide +kernel
theorem dL_law_27 : decode cL_law 27 = .ok (.aload_n 0, 1) := by decide +kernel
theorem dL_law_28 : decode cL_law 28 = .ok (.iload_n 3, 1) := by decide +kernel
theorem dL_law_29 : decode cL_law 29 = .ok (.iaload, 1) := by decide +kernel
theorem dL_law_30 : decode cL_law 30 = .ok (.bipush 31, 2) := by decide +kernel
theorem dL_law_32 : decode cL_law 32 = .ok (.iand, 1) := by decide +kernel
theorem dL_law_33 : decode cL_law 33 = .ok (.tableswitch 983 0 29 #[135, 178, 221, 254, 287, 300, 323, 346, 409, 432, 445, 458, 491, 514, 527, 550, 583, 616, 649, 682, 735, 768, 791, 824, 847, 880, 891, 914, 927, 960], 135) := by decide +kernel
theorem dL_law_168 : decode cL_law 168 = .ok (.aload_n 1, 1) := by decide +kernel
theorem dL_law_169 : decode cL_law 169 = .ok (.aload_n 0, 1) := by decide +kernel
theorem dL_law_170 : decode cL_law 170 = .ok (.iload_n 3, 1) := by decide +kernel
theorem dL_law_171 : decode cL_law 171 = .ok (.iconst 1, 1) := by decide +kernel
theorem dL_law_172 : decode cL_law 172 = .ok (.iadd, 1) := by decide +kernel
theorem dL_law_173 : decode cL_law 173 = .ok (.iaload, 1) := by decide +kernel
theorem dL_law_174 : decode cL_law 174 = .ok (.aload_n 0, 1) := by decide +kernel
theorem dL_law_175 : decode cL_law 175 = .ok (.iload_n 3, 1) := by decide +kernel
theorem dL_law_176 : decode cL_law 176 = .ok (.iconst 2, 1) := by decide +kernel
theorem dL_law_177 : decode cL_law 177 = .ok (.iadd, 1) := by decide +kernel
theorem dL_law_178 : decode cL_law 178 = .ok (.iaload, 1) := by decide +kernel
theorem dL_law_179 : decode cL_law 179 = .ok (.aload_n 0, 1) := by decide +kernel
theorem dL_law_180 : decode cL_law 180 = .ok (.iload_n 3, 1) := by decide +kernel
theorem dL_law_181 : decode cL_law 181 = .ok (.iconst 3, 1) := by decide +kernel
theorem dL_law_182 : decode cL_law 182 = .ok (.iadd, 1) := by decide +kernel
theorem dL_law_183 : decode cL_law 183 = .ok (.iaload, 1) := by decide +kernel
theorem dL_law_184 : decode cL_law 184 = .ok (.invokevirtual 13, 3) := by decide +kernel
theorem dL_law_187 : decode cL_law 187 = .ok (.aload_n 2, 1) := by decide +kernel
theorem dL_law_188 : decode cL_law 188 = .ok (.aload_n 0, 1) := by decide +kernel
theorem dL_law_189 : decode cL_law 189 = .ok (.iload_n 3, 1) := by decide +kernel
theorem dL_law_190 : decode cL_law 190 = .ok (.iconst 1, 1) := by decide +kernel
theorem dL_law_191 : decode cL_law 191 = .ok (.iadd, 1) := by decide +kernel
theorem dL_law_192 : decode cL_law 192 = .ok (.iaload, 1) := by decide +kernel
theorem dL_law_193 : decode cL_law 193 = .ok (.aload_n 0, 1) := by decide +kernel
theorem dL_law_194 : decode cL_law 194 = .ok (.iload_n 3, 1) := by decide +kernel
theorem dL_law_195 : decode cL_law 195 = .ok (.iconst 2, 1) := by decide +kernel
theorem dL_law_196 : decode cL_law 196 = .ok (.iadd, 1) := by decide +kernel
theorem dL_law_197 : decode cL_law 197 = .ok (.iaload, 1) := by decide +kernel
theorem dL_law_198 : decode cL_law 198 = .ok (.aload_n 0, 1) := by decide +kernel
theorem dL_law_199 : decode cL_law 199 = .ok (.iload_n 3, 1) := by decide +kernel
theorem dL_law_200 : decode cL_law 200 = .ok (.iconst 3, 1) := by decide +kernel
theorem dL_law_201 : decode cL_law 201 = .ok (.iadd, 1) := by decide +kernel
theorem dL_law_202 : decode cL_law 202 = .ok (.iaload, 1) := by decide +kernel
theorem dL_law_203 : decode cL_law 203 = .ok (.invokevirtual 17, 3) := by decide +kernel
theorem dL_law_206 : decode cL_law 206 = .ok (.if_icmp .eq 810, 3) := by decide +kernel
theorem dL_law_209 : decode cL_law 209 = .ok (.iconst 0, 1) := by decide +kernel
theorem dL_law_210 : decode cL_law 210 = .ok (.ireturn, 1) := by decide +kernel
theorem dL_law_211 : decode cL_law 211 = .ok (.aload_n 1, 1) := by decide +kernel
theorem dL_law_212 : decode cL_law 212 = .ok (.aload_n 0, 1) := by decide +kernel
theorem dL_law_213 : decode cL_law 213 = .ok (.iload_n 3, 1) := by decide +kernel
theorem dL_law_214 : decode cL_law 214 = .ok (.iconst 1, 1) := by decide +kernel
theorem dL_law_215 : decode cL_law 215 = .ok (.iadd, 1) := by decide +kernel
theorem dL_law_216 : decode cL_law 216 = .ok (.iaload, 1) := by decide +kernel
theorem dL_law_217 : decode cL_law 217 = .ok (.aload_n 0, 1) := by decide +kernel
theorem dL_law_218 : decode cL_law 218 = .ok (.iload_n 3, 1) := by decide +kernel
theorem dL_law_219 : decode cL_law 219 = .ok (.iconst 2, 1) := by decide +kernel
theorem dL_law_220 : decode cL_law 220 = .ok (.iadd, 1) := by decide +kernel
theorem dL_law_221 : decode cL_law 221 = .ok (.iaload, 1) := by decide +kernel
theorem dL_law_222 : decode cL_law 222 = .ok (.aload_n 0, 1) := by decide +kernel
theorem dL_law_223 : decode cL_law 223 = .ok (.iload_n 3, 1) := by decide +kernel
theorem dL_law_224 : decode cL_law 224 = .ok (.iconst 3, 1) := by decide +kernel
theorem dL_law_225 : decode cL_law 225 = .ok (.iadd, 1) := by decide +kernel
theorem dL_law_226 : decode cL_law 226 = .ok (.iaload, 1) := by decide +kernel
theorem dL_law_227 : decode cL_law 227 = .ok (.invokevirtual 18, 3) := by decide +kernel
theorem dL_law_230 : decode cL_law 230 = .ok (.aload_n 2, 1) := by decide +kernel
theorem dL_law_231 : decode cL_law 231 = .ok (.aload_n 0, 1) := by decide +kernel
theorem dL_law_232 : decode cL_law 232 = .ok (.iload_n 3, 1) := by decide +kernel
theorem dL_law_233 : decode cL_law 233 = .ok (.iconst 1, 1) := by decide +kernel
theorem dL_law_234 : decode cL_law 234 = .ok (.iadd, 1) := by decide +kernel
theorem dL_law_235 : decode cL_law 235 = .ok (.iaload, 1) := by decide +kernel
theorem dL_law_236 : decode cL_law 236 = .ok (.aload_n 0, 1) := by decide +kernel
theorem dL_law_237 : decode cL_law 237 = .ok (.iload_n 3, 1) := by decide +kernel
theorem dL_law_238 : decode cL_law 238 = .ok (.iconst 2, 1) := by decide +kernel
theorem dL_law_239 : decode cL_law 239 = .ok (.iadd, 1) := by decide +kernel
theorem dL_law_240 : decode cL_law 240 = .ok (.iaload, 1) := by decide +kernel
theorem dL_law_241 : decode cL_law 241 = .ok (.aload_n 0, 1) := by decide +kernel
theorem dL_law_242 : decode cL_law 242 = .ok (.iload_n 3, 1) := by decide +kernel
theorem dL_law_243 : decode cL_law 243 = .ok (.iconst 3, 1) := by decide +kernel
theorem dL_law_244 : decode cL_law 244 = .ok (.iadd, 1) := by decide +kernel
theorem dL_law_245 : decode cL_law 245 = .ok (.iaload, 1) := by decide +kernel
theorem dL_law_246 : decode cL_law 246 = .ok (.invokevirtual 22, 3) := by decide +kernel
theorem dL_law_249 : decode cL_law 249 = .ok (.if_icmp .eq 767, 3) := by decide +kernel
theorem dL_law_252 : decode cL_law 252 = .ok (.iconst 0, 1) := by decide +kernel
theorem dL_law_253 : decode cL_law 253 = .ok (.ireturn, 1) := by decide +kernel
theorem dL_law_254 : decode cL_law 254 = .ok (.aload_n 1, 1) := by decide +kernel
theorem dL_law_255 : decode cL_law 255 = .ok (.aload_n 0, 1) := by decide +kernel
theorem dL_law_256 : decode cL_law 256 = .ok (.iload_n 3, 1) := by decide +kernel
theorem dL_law_257 : decode cL_law 257 = .ok (.iconst 1, 1) := by decide +kernel
theorem dL_law_258 : decode cL_law 258 = .ok (.iadd, 1) := by decide +kernel
theorem dL_law_259 : decode cL_law 259 = .ok (.iaload, 1) := by decide +kernel
theorem dL_law_260 : decode cL_law 260 = .ok (.aload_n 0, 1) := by decide +kernel
theorem dL_law_261 : decode cL_law 261 = .ok (.iload_n 3, 1) := by decide +kernel
theorem dL_law_262 : decode cL_law 262 = .ok (.iconst 2, 1) := by decide +kernel
theorem dL_law_263 : decode cL_law 263 = .ok (.iadd, 1) := by decide +kernel
theorem dL_law_264 : decode cL_law 264 = .ok (.iaload, 1) := by decide +kernel
theorem dL_law_265 : decode cL_law 265 = .ok (.invokevirtual 23, 3) := by decide +kernel
theorem dL_law_268 : decode cL_law 268 = .ok (.aload_n 2, 1) := by decide +kernel
theorem dL_law_269 : decode cL_law 269 = .ok (.aload_n 0, 1) := by decide +kernel
theorem dL_law_270 : decode cL_law 270 = .ok (.iload_n 3, 1) := by decide +kernel
theorem dL_law_271 : decode cL_law 271 = .ok (.iconst 1, 1) := by decide +kernel
theorem dL_law_272 : decode cL_law 272 = .ok (.iadd, 1) := by decide +kernel
theorem dL_law_273 : decode cL_law 273 = .ok (.iaload, 1) := by decide +kernel
theorem dL_law_274 : decode cL_law 274 = .ok (.aload_n 0, 1) := by decide +kernel
theorem dL_law_275 : decode cL_law 275 = .ok (.iload_n 3, 1) := by decide +kernel
theorem dL_law_276 : decode cL_law 276 = .ok (.iconst 2, 1) := by decide +kernel
theorem dL_law_277 : decode cL_law 277 = .ok (.iadd, 1) := by decide +kernel
theorem dL_law_278 : decode cL_law 278 = .ok (.iaload, 1) := by decide +kernel
theorem dL_law_279 : decode cL_law 279 = .ok (.invokevirtual 27, 3) := by decide +kernel
theorem dL_law_282 : decode cL_law 282 = .ok (.if_icmp .eq 734, 3) := by decide +kernel
theorem dL_law_285 : decode cL_law 285 = .ok (.iconst 0, 1) := by decide +kernel
theorem dL_law_286 : decode cL_law 286 = .ok (.ireturn, 1) := by decide +kernel
theorem dL_law_287 : decode cL_law 287 = .ok (.aload_n 1, 1) := by decide +kernel
theorem dL_law_288 : decode cL_law 288 = .ok (.aload_n 0, 1) := by decide +kernel
theorem dL_law_289 : decode cL_law 289 = .ok (.iload_n 3, 1) := by decide +kernel
theorem dL_law_290 : decode cL_law 290 = .ok (.iconst 1, 1) := by decide +kernel
theorem dL_law_291 : decode cL_law 291 = .ok (.iadd, 1) := by decide +kernel
theorem dL_law_292 : decode cL_law 292 = .ok (.iaload, 1) := by decide +kernel
theorem dL_law_293 : decode cL_law 293 = .ok (.aload_n 0, 1) := by decide +kernel
theorem dL_law_294 : decode cL_law 294 = .ok (.iload_n 3, 1) := by decide +kernel
theorem dL_law_295 : decode cL_law 295 = .ok (.iconst 2, 1) := by decide +kernel
theorem dL_law_296 : decode cL_law 296 = .ok (.iadd, 1) := by decide +kernel
theorem dL_law_297 : decode cL_law 297 = .ok (.iaload, 1) := by decide +kernel
theorem dL_law_298 : decode cL_law 298 = .ok (.invokevirtual 28, 3) := by decide +kernel
theorem dL_law_301 : decode cL_law 301 = .ok (.aload_n 2, 1) := by decide +kernel
theorem dL_law_302 : decode cL_law 302 = .ok (.aload_n 0, 1) := by decide +kernel
theorem dL_law_303 : decode cL_law 303 = .ok (.iload_n 3, 1) := by decide +kernel
theorem dL_law_304 : decode cL_law 304 = .ok (.iconst 1, 1) := by decide +kernel
theorem dL_law_305 : decode cL_law 305 = .ok (.iadd, 1) := by decide +kernel
theorem dL_law_306 : decode cL_law 306 = .ok (.iaload, 1) := by decide +kernel
theorem dL_law_307 : decode cL_law 307 = .ok (.aload_n 0, 1) := by decide +kernel
theorem dL_law_308 : decode cL_law 308 = .ok (.iload_n 3, 1) := by decide +kernel
theorem dL_law_309 : decode cL_law 309 = .ok (.iconst 2, 1) := by decide +kernel
theorem dL_law_310 : decode cL_law 310 = .ok (.iadd, 1) := by decide +kernel
theorem dL_law_311 : decode cL_law 311 = .ok (.iaload, 1) := by decide +kernel
theorem dL_law_312 : decode cL_law 312 = .ok (.invokevirtual 31, 3) := by decide +kernel
theorem dL_law_315 : decode cL_law 315 = .ok (.if_icmp .eq 701, 3) := by decide +kernel
theorem dL_law_318 : decode cL_law 318 = .ok (.iconst 0, 1) := by decide +kernel
theorem dL_law_319 : decode cL_law 319 = .ok (.ireturn, 1) := by decide +kernel
theorem dL_law_320 : decode cL_law 320 = .ok (.aload_n 1, 1) := by decide +kernel
theorem dL_law_321 : decode cL_law 321 = .ok (.invokevirtual 32, 3) := by decide +kernel
theorem dL_law_324 : decode cL_law 324 = .ok (.aload_n 2, 1) := by decide +kernel
theorem dL_law_325 : decode cL_law 325 = .ok (.invokevirtual 36, 3) := by decide +kernel
theorem dL_law_328 : decode cL_law 328 = .ok (.if_icmp .eq 688, 3) := by decide +kernel
theorem dL_law_331 : decode cL_law 331 = .ok (.iconst 0, 1) := by decide +kernel
theorem dL_law_332 : decode cL_law 332 = .ok (.ireturn, 1) := by decide +kernel
theorem dL_law_333 : decode cL_law 333 = .ok (.aload_n 1, 1) := by decide +kernel
theorem dL_law_334 : decode cL_law 334 = .ok (.aload_n 0, 1) := by decide +kernel
theorem dL_law_335 : decode cL_law 335 = .ok (.iload_n 3, 1) := by decide +kernel
theorem dL_law_336 : decode cL_law 336 = .ok (.iconst 1, 1) := by decide +kernel
theorem dL_law_337 : decode cL_law 337 = .ok (.iadd, 1) := by decide +kernel
theorem dL_law_338 : decode cL_law 338 = .ok (.iaload, 1) := by decide +kernel
theorem dL_law_339 : decode cL_law 339 = .ok (.invokevirtual 37, 3) := by decide +kernel
theorem dL_law_342 : decode cL_law 342 = .ok (.aload_n 2, 1) := by decide +kernel
theorem dL_law_343 : decode cL_law 343 = .ok (.aload_n 0, 1) := by decide +kernel
theorem dL_law_344 : decode cL_law 344 = .ok (.iload_n 3, 1) := by decide +kernel
theorem dL_law_345 : decode cL_law 345 = .ok (.iconst 1, 1) := by decide +kernel
theorem dL_law_346 : decode cL_law 346 = .ok (.iadd, 1) := by decide +kernel
theorem dL_law_347 : decode cL_law 347 = .ok (.iaload, 1) := by decide +kernel
theorem dL_law_348 : decode cL_law 348 = .ok (.invokevirtual 41, 3) := by decide +kernel
theorem dL_law_351 : decode cL_law 351 = .ok (.if_icmp .eq 665, 3) := by decide +kernel
theorem dL_law_354 : decode cL_law 354 = .ok (.iconst 0, 1) := by decide +kernel
theorem dL_law_355 : decode cL_law 355 = .ok (.ireturn, 1) := by decide +kernel
theorem dL_law_356 : decode cL_law 356 = .ok (.aload_n 1, 1) := by decide +kernel
theorem dL_law_357 : decode cL_law 357 = .ok (.aload_n 0, 1) := by decide +kernel
theorem dL_law_358 : decode cL_law 358 = .ok (.iload_n 3, 1) := by decide +kernel
theorem dL_law_359 : decode cL_law 359 = .ok (.iconst 1, 1) := by decide +kernel
theorem dL_law_360 : decode cL_law 360 = .ok (.iadd, 1) := by decide +kernel
theorem dL_law_361 : decode cL_law 361 = .ok (.iaload, 1) := by decide +kernel
theorem dL_law_362 : decode cL_law 362 = .ok (.invokevirtual 42, 3) := by decide +kernel
theorem dL_law_365 : decode cL_law 365 = .ok (.aload_n 2, 1) := by decide +kernel
theorem dL_law_366 : decode cL_law 366 = .ok (.aload_n 0, 1) := by decide +kernel
theorem dL_law_367 : decode cL_law 367 = .ok (.iload_n 3, 1) := by decide +kernel
theorem dL_law_368 : decode cL_law 368 = .ok (.iconst 1, 1) := by decide +kernel
theorem dL_law_369 : decode cL_law 369 = .ok (.iadd, 1) := by decide +kernel
theorem dL_law_370 : decode cL_law 370 = .ok (.iaload, 1) := by decide +kernel
theorem dL_law_371 : decode cL_law 371 = .ok (.invokevirtual 45, 3) := by decide +kernel
theorem dL_law_374 : decode cL_law 374 = .ok (.if_icmp .eq 642, 3) := by decide +kernel
theorem dL_law_377 : decode cL_law 377 = .ok (.iconst 0, 1) := by decide +kernel
theorem dL_law_378 : decode cL_law 378 = .ok (.ireturn, 1) := by decide +kernel
theorem dL_law_379 : decode cL_law 379 = .ok (.aload_n 1, 1) := by decide +kernel
theorem dL_law_380 : decode cL_law 380 = .ok (.aload_n 0, 1) := by decide +kernel
theorem dL_law_381 : decode cL_law 381 = .ok (.iload_n 3, 1) := by decide +kernel
theorem dL_law_382 : decode cL_law 382 = .ok (.iconst 1, 1) := by decide +kernel
theorem dL_law_383 : decode cL_law 383 = .ok (.iadd, 1) := by decide +kernel
theorem dL_law_384 : decode cL_law 384 = .ok (.iaload, 1) := by decide +kernel
theorem dL_law_385 : decode cL_law 385 = .ok (.aload_n 0, 1) := by decide +kernel
theorem dL_law_386 : decode cL_law 386 = .ok (.iload_n 3, 1) := by decide +kernel
theorem dL_law_387 : decode cL_law 387 = .ok (.iconst 2, 1) := by decide +kernel
theorem dL_law_388 : decode cL_law 388 = .ok (.iadd, 1) := by decide +kernel
theorem dL_law_389 : decode cL_law 389 = .ok (.iaload, 1) := by decide +kernel
theorem dL_law_390 : decode cL_law 390 = .ok (.aload_n 0, 1) := by decide +kernel
theorem dL_law_391 : decode cL_law 391 = .ok (.iload_n 3, 1) := by decide +kernel
theorem dL_law_392 : decode cL_law 392 = .ok (.iconst 3, 1) := by decide +kernel
theorem dL_law_393 : decode cL_law 393 = .ok (.iadd, 1) := by decide +kernel
theorem dL_law_394 : decode cL_law 394 = .ok (.iaload, 1) := by decide +kernel
theorem dL_law_395 : decode cL_law 395 = .ok (.aload_n 0, 1) := by decide +kernel
theorem dL_law_396 : decode cL_law 396 = .ok (.iload_n 3, 1) := by decide +kernel
theorem dL_law_397 : decode cL_law 397 = .ok (.iconst 4, 1) := by decide +kernel
theorem dL_law_398 : decode cL_law 398 = .ok (.iadd, 1) := by decide +kernel
theorem dL_law_399 : decode cL_law 399 = .ok (.iaload, 1) := by decide +kernel
theorem dL_law_400 : decode cL_law 400 = .ok (.aload_n 0, 1) := by decide +kernel
theorem dL_law_401 : decode cL_law 401 = .ok (.iload_n 3, 1) := by decide +kernel
theorem dL_law_402 : decode cL_law 402 = .ok (.iconst 5, 1) := by decide +kernel
theorem dL_law_403 : decode cL_law 403 = .ok (.iadd, 1) := by decide +kernel
theorem dL_law_404 : decode cL_law 404 = .ok (.iaload, 1) := by decide +kernel
theorem dL_law_405 : decode cL_law 405 = .ok (.invokevirtual 46, 3) := by decide +kernel
theorem dL_law_408 : decode cL_law 408 = .ok (.aload_n 2, 1) := by decide +kernel
theorem dL_law_409 : decode cL_law 409 = .ok (.aload_n 0, 1) := by decide +kernel
theorem dL_law_410 : decode cL_law 410 = .ok (.iload_n 3, 1) := by decide +kernel
theorem dL_law_411 : decode cL_law 411 = .ok (.iconst 1, 1) := by decide +kernel
theorem dL_law_412 : decode cL_law 412 = .ok (.iadd, 1) := by decide +kernel
theorem dL_law_413 : decode cL_law 413 = .ok (.iaload, 1) := by decide +kernel
theorem dL_law_414 : decode cL_law 414 = .ok (.aload_n 0, 1) := by decide +kernel
theorem dL_law_415 : decode cL_law 415 = .ok (.iload_n 3, 1) := by decide +kernel
theorem dL_law_416 : decode cL_law 416 = .ok (.iconst 2, 1) := by decide +kernel
theorem dL_law_417 : decode cL_law 417 = .ok (.iadd, 1) := by decide +kernel
theorem dL_law_418 : decode cL_law 418 = .ok (.iaload, 1) := by decide +kernel
theorem dL_law_419 : decode cL_law 419 = .ok (.aload_n 0, 1) := by decide +kernel
theorem dL_law_420 : decode cL_law 420 = .ok (.iload_n 3, 1) := by decide +kernel
theorem dL_law_421 : decode cL_law 421 = .ok (.iconst 3, 1) := by decide +kernel
theorem dL_law_422 : decode cL_law 422 = .ok (.iadd, 1) := by decide +kernel
theorem dL_law_423 : decode cL_law 423 = .ok (.iaload, 1) := by decide +kernel
theorem dL_law_424 : decode cL_law 424 = .ok (.aload_n 0, 1) := by decide +kernel
theorem dL_law_425 : decode cL_law 425 = .ok (.iload_n 3, 1) := by decide +kernel
theorem dL_law_426 : decode cL_law 426 = .ok (.iconst 4, 1) := by decide +kernel
theorem dL_law_427 : decode cL_law 427 = .ok (.iadd, 1) := by decide +kernel
theorem dL_law_428 : decode cL_law 428 = .ok (.iaload, 1) := by decide +kernel
theorem dL_law_429 : decode cL_law 429 = .ok (.aload_n 0, 1) := by decide +kernel
theorem dL_law_430 : decode cL_law 430 = .ok (.iload_n 3, 1) := by decide +kernel
theorem dL_law_431 : decode cL_law 431 = .ok (.iconst 5, 1) := by decide +kernel
theorem dL_law_432 : decode cL_law 432 = .ok (.iadd, 1) := by decide +kernel
theorem dL_law_433 : decode cL_law 433 = .ok (.iaload, 1) := by decide +kernel
theorem dL_law_434 : decode cL_law 434 = .ok (.invokevirtual 50, 3) := by decide +kernel
theorem dL_law_437 : decode cL_law 437 = .ok (.if_icmp .eq 579, 3) := by decide +kernel
theorem dL_law_440 : decode cL_law 440 = .ok (.iconst 0, 1) := by decide +kernel
theorem dL_law_441 : decode cL_law 441 = .ok (.ireturn, 1) := by decide +kernel
theorem dL_law_442 : decode cL_law 442 = .ok (.aload_n 1, 1) := by decide +kernel
theorem dL_law_443 : decode cL_law 443 = .ok (.aload_n 0, 1) := by decide +kernel
theorem dL_law_444 : decode cL_law 444 = .ok (.iload_n 3, 1) := by decide +kernel
theorem dL_law_445 : decode cL_law 445 = .ok (.iconst 1, 1) := by decide +kernel
theorem dL_law_446 : decode cL_law 446 = .ok (.iadd, 1) := by decide +kernel
theorem dL_law_447 : decode cL_law 447 = .ok (.iaload, 1) := by decide +kernel
theorem dL_law_448 : decode cL_law 448 = .ok (.invokevirtual 51, 3) := by decide +kernel
theorem dL_law_451 : decode cL_law 451 = .ok (.aload_n 2, 1) := by decide +kernel
theorem dL_law_452 : decode cL_law 452 = .ok (.aload_n 0, 1) := by decide +kernel
theorem dL_law_453 : decode cL_law 453 = .ok (.iload_n 3, 1) := by decide +kernel
theorem dL_law_454 : decode cL_law 454 = .ok (.iconst 1, 1) := by decide +kernel
theorem dL_law_455 : decode cL_law 455 = .ok (.iadd, 1) := by decide +kernel
theorem dL_law_456 : decode cL_law 456 = .ok (.iaload, 1) := by decide +kernel
theorem dL_law_457 : decode cL_law 457 = .ok (.invokevirtual 54, 3) := by decide +kernel
theorem dL_law_460 : decode cL_law 460 = .ok (.if_icmp .eq 556, 3) := by decide +kernel
theorem dL_law_463 : decode cL_law 463 = .ok (.iconst 0, 1) := by decide +kernel
theorem dL_law_464 : decode cL_law 464 = .ok (.ireturn, 1) := by decide +kernel
theorem dL_law_465 : decode cL_law 465 = .ok (.aload_n 1, 1) := by decide +kernel
theorem dL_law_466 : decode cL_law 466 = .ok (.invokevirtual 55, 3) := by decide +kernel
theorem dL_law_469 : decode cL_law 469 = .ok (.aload_n 2, 1) := by decide +kernel
theorem dL_law_470 : decode cL_law 470 = .ok (.invokevirtual 58, 3) := by decide +kernel
theorem dL_law_473 : decode cL_law 473 = .ok (.if_icmp .eq 543, 3) := by decide +kernel
theorem dL_law_476 : decode cL_law 476 = .ok (.iconst 0, 1) := by decide +kernel
theorem dL_law_477 : decode cL_law 477 = .ok (.ireturn, 1) := by decide +kernel
theorem dL_law_478 : decode cL_law 478 = .ok (.aload_n 1, 1) := by decide +kernel
theorem dL_law_479 : decode cL_law 479 = .ok (.invokevirtual 59, 3) := by decide +kernel
theorem dL_law_482 : decode cL_law 482 = .ok (.aload_n 2, 1) := by decide +kernel
theorem dL_law_483 : decode cL_law 483 = .ok (.invokevirtual 63, 3) := by decide +kernel
theorem dL_law_486 : decode cL_law 486 = .ok (.if_icmp .eq 530, 3) := by decide +kernel
theorem dL_law_489 : decode cL_law 489 = .ok (.iconst 0, 1) := by decide +kernel
theorem dL_law_490 : decode cL_law 490 = .ok (.ireturn, 1) := by decide +kernel
theorem dL_law_491 : decode cL_law 491 = .ok (.aload_n 1, 1) := by decide +kernel
theorem dL_law_492 : decode cL_law 492 = .ok (.aload_n 0, 1) := by decide +kernel
theorem dL_law_493 : decode cL_law 493 = .ok (.iload_n 3, 1) := by decide +kernel
theorem dL_law_494 : decode cL_law 494 = .ok (.iconst 1, 1) := by decide +kernel
theorem dL_law_495 : decode cL_law 495 = .ok (.iadd, 1) := by decide +kernel
theorem dL_law_496 : decode cL_law 496 = .ok (.iaload, 1) := by decide +kernel
theorem dL_law_497 : decode cL_law 497 = .ok (.aload_n 0, 1) := by decide +kernel
theorem dL_law_498 : decode cL_law 498 = .ok (.iload_n 3, 1) := by decide +kernel
theorem dL_law_499 : decode cL_law 499 = .ok (.iconst 2, 1) := by decide +kernel
theorem dL_law_500 : decode cL_law 500 = .ok (.iadd, 1) := by decide +kernel
theorem dL_law_501 : decode cL_law 501 = .ok (.iaload, 1) := by decide +kernel
theorem dL_law_502 : decode cL_law 502 = .ok (.invokevirtual 64, 3) := by decide +kernel
theorem dL_law_505 : decode cL_law 505 = .ok (.aload_n 2, 1) := by decide +kernel
theorem dL_law_506 : decode cL_law 506 = .ok (.aload_n 0, 1) := by decide +kernel
theorem dL_law_507 : decode cL_law 507 = .ok (.iload_n 3, 1) := by decide +kernel
theorem dL_law_508 : decode cL_law 508 = .ok (.iconst 1, 1) := by decide +kernel
theorem dL_law_509 : decode cL_law 509 = .ok (.iadd, 1) := by decide +kernel
theorem dL_law_510 : decode cL_law 510 = .ok (.iaload, 1) := by decide +kernel
theorem dL_law_511 : decode cL_law 511 = .ok (.aload_n 0, 1) := by decide +kernel
theorem dL_law_512 : decode cL_law 512 = .ok (.iload_n 3, 1) := by decide +kernel
theorem dL_law_513 : decode cL_law 513 = .ok (.iconst 2, 1) := by decide +kernel
theorem dL_law_514 : decode cL_law 514 = .ok (.iadd, 1) := by decide +kernel
theorem dL_law_515 : decode cL_law 515 = .ok (.iaload, 1) := by decide +kernel
theorem dL_law_516 : decode cL_law 516 = .ok (.invokevirtual 68, 3) := by decide +kernel
theorem dL_law_519 : decode cL_law 519 = .ok (.if_icmp .eq 497, 3) := by decide +kernel
theorem dL_law_522 : decode cL_law 522 = .ok (.iconst 0, 1) := by decide +kernel
theorem dL_law_523 : decode cL_law 523 = .ok (.ireturn, 1) := by decide +kernel
theorem dL_law_524 : decode cL_law 524 = .ok (.aload_n 1, 1) := by decide +kernel
theorem dL_law_525 : decode cL_law 525 = .ok (.aload_n 0, 1) := by decide +kernel
theorem dL_law_526 : decode cL_law 526 = .ok (.iload_n 3, 1) := by decide +kernel
theorem dL_law_527 : decode cL_law 527 = .ok (.iconst 1, 1) := by decide +kernel
theorem dL_law_528 : decode cL_law 528 = .ok (.iadd, 1) := by decide +kernel
theorem dL_law_529 : decode cL_law 529 = .ok (.iaload, 1) := by decide +kernel
theorem dL_law_530 : decode cL_law 530 = .ok (.invokevirtual 69, 3) := by decide +kernel
theorem dL_law_533 : decode cL_law 533 = .ok (.aload_n 2, 1) := by decide +kernel
theorem dL_law_534 : decode cL_law 534 = .ok (.aload_n 0, 1) := by decide +kernel
theorem dL_law_535 : decode cL_law 535 = .ok (.iload_n 3, 1) := by decide +kernel
theorem dL_law_536 : decode cL_law 536 = .ok (.iconst 1, 1) := by decide +kernel
theorem dL_law_537 : decode cL_law 537 = .ok (.iadd, 1) := by decide +kernel
theorem dL_law_538 : decode cL_law 538 = .ok (.iaload, 1) := by decide +kernel
theorem dL_law_539 : decode cL_law 539 = .ok (.invokevirtual 73, 3) := by decide +kernel
theorem dL_law_542 : decode cL_law 542 = .ok (.if_icmp .eq 474, 3) := by decide +kernel
theorem dL_law_545 : decode cL_law 545 = .ok (.iconst 0, 1) := by decide +kernel
theorem dL_law_546 : decode cL_law 546 = .ok (.ireturn, 1) := by decide +kernel
theorem dL_law_547 : decode cL_law 547 = .ok (.aload_n 1, 1) := by decide +kernel
theorem dL_law_548 : decode cL_law 548 = .ok (.invokevirtual 74, 3) := by decide +kernel
theorem dL_law_551 : decode cL_law 551 = .ok (.aload_n 2, 1) := by decide +kernel
theorem dL_law_552 : decode cL_law 552 = .ok (.invokevirtual 77, 3) := by decide +kernel
theorem dL_law_555 : decode cL_law 555 = .ok (.if_icmp .eq 461, 3) := by decide +kernel
theorem dL_law_558 : decode cL_law 558 = .ok (.iconst 0, 1) := by decide +kernel
theorem dL_law_559 : decode cL_law 559 = .ok (.ireturn, 1) := by decide +kernel
theorem dL_law_560 : decode cL_law 560 = .ok (.aload_n 1, 1) := by decide +kernel
theorem dL_law_561 : decode cL_law 561 = .ok (.aload_n 0, 1) := by decide +kernel
theorem dL_law_562 : decode cL_law 562 = .ok (.iload_n 3, 1) := by decide +kernel
theorem dL_law_563 : decode cL_law 563 = .ok (.iconst 1, 1) := by decide +kernel
theorem dL_law_564 : decode cL_law 564 = .ok (.iadd, 1) := by decide +kernel
theorem dL_law_565 : decode cL_law 565 = .ok (.iaload, 1) := by decide +kernel
theorem dL_law_566 : decode cL_law 566 = .ok (.invokevirtual 78, 3) := by decide +kernel
theorem dL_law_569 : decode cL_law 569 = .ok (.aload_n 2, 1) := by decide +kernel
theorem dL_law_570 : decode cL_law 570 = .ok (.aload_n 0, 1) := by decide +kernel
theorem dL_law_571 : decode cL_law 571 = .ok (.iload_n 3, 1) := by decide +kernel
theorem dL_law_572 : decode cL_law 572 = .ok (.iconst 1, 1) := by decide +kernel
theorem dL_law_573 : decode cL_law 573 = .ok (.iadd, 1) := by decide +kernel
theorem dL_law_574 : decode cL_law 574 = .ok (.iaload, 1) := by decide +kernel
theorem dL_law_575 : decode cL_law 575 = .ok (.invokevirtual 81, 3) := by decide +kernel
theorem dL_law_578 : decode cL_law 578 = .ok (.if_icmp .eq 438, 3) := by decide +kernel
theorem dL_law_581 : decode cL_law 581 = .ok (.iconst 0, 1) := by decide +kernel
theorem dL_law_582 : decode cL_law 582 = .ok (.ireturn, 1) := by decide +kernel
theorem dL_law_583 : decode cL_law 583 = .ok (.aload_n 1, 1) := by decide +kernel
theorem dL_law_584 : decode cL_law 584 = .ok (.aload_n 0, 1) := by decide +kernel
theorem dL_law_585 : decode cL_law 585 = .ok (.iload_n 3, 1) := by decide +kernel
theorem dL_law_586 : decode cL_law 586 = .ok (.iconst 1, 1) := by decide +kernel
theorem dL_law_587 : decode cL_law 587 = .ok (.iadd, 1) := by decide +kernel
theorem dL_law_588 : decode cL_law 588 = .ok (.iaload, 1) := by decide +kernel
theorem dL_law_589 : decode cL_law 589 = .ok (.aload_n 0, 1) := by decide +kernel
theorem dL_law_590 : decode cL_law 590 = .ok (.iload_n 3, 1) := by decide +kernel
theorem dL_law_591 : decode cL_law 591 = .ok (.iconst 2, 1) := by decide +kernel
theorem dL_law_592 : decode cL_law 592 = .ok (.iadd, 1) := by decide +kernel
theorem dL_law_593 : decode cL_law 593 = .ok (.iaload, 1) := by decide +kernel
theorem dL_law_594 : decode cL_law 594 = .ok (.invokevirtual 82, 3) := by decide +kernel
theorem dL_law_597 : decode cL_law 597 = .ok (.aload_n 2, 1) := by decide +kernel
theorem dL_law_598 : decode cL_law 598 = .ok (.aload_n 0, 1) := by decide +kernel
theorem dL_law_599 : decode cL_law 599 = .ok (.iload_n 3, 1) := by decide +kernel
theorem dL_law_600 : decode cL_law 600 = .ok (.iconst 1, 1) := by decide +kernel
theorem dL_law_601 : decode cL_law 601 = .ok (.iadd, 1) := by decide +kernel
theorem dL_law_602 : decode cL_law 602 = .ok (.iaload, 1) := by decide +kernel
theorem dL_law_603 : decode cL_law 603 = .ok (.aload_n 0, 1) := by decide +kernel
theorem dL_law_604 : decode cL_law 604 = .ok (.iload_n 3, 1) := by decide +kernel
theorem dL_law_605 : decode cL_law 605 = .ok (.iconst 2, 1) := by decide +kernel
theorem dL_law_606 : decode cL_law 606 = .ok (.iadd, 1) := by decide +kernel
theorem dL_law_607 : decode cL_law 607 = .ok (.iaload, 1) := by decide +kernel
theorem dL_law_608 : decode cL_law 608 = .ok (.invokevirtual 85, 3) := by decide +kernel
theorem dL_law_611 : decode cL_law 611 = .ok (.if_icmp .eq 405, 3) := by decide +kernel
theorem dL_law_614 : decode cL_law 614 = .ok (.iconst 0, 1) := by decide +kernel
theorem dL_law_615 : decode cL_law 615 = .ok (.ireturn, 1) := by decide +kernel
theorem dL_law_616 : decode cL_law 616 = .ok (.aload_n 1, 1) := by decide +kernel
theorem dL_law_617 : decode cL_law 617 = .ok (.aload_n 0, 1) := by decide +kernel
theorem dL_law_618 : decode cL_law 618 = .ok (.iload_n 3, 1) := by decide +kernel
theorem dL_law_619 : decode cL_law 619 = .ok (.iconst 1, 1) := by decide +kernel
theorem dL_law_620 : decode cL_law 620 = .ok (.iadd, 1) := by decide +kernel
theorem dL_law_621 : decode cL_law 621 = .ok (.iaload, 1) := by decide +kernel
theorem dL_law_622 : decode cL_law 622 = .ok (.aload_n 0, 1) := by decide +kernel
theorem dL_law_623 : decode cL_law 623 = .ok (.iload_n 3, 1) := by decide +kernel
theorem dL_law_624 : decode cL_law 624 = .ok (.iconst 2, 1) := by decide +kernel
theorem dL_law_625 : decode cL_law 625 = .ok (.iadd, 1) := by decide +kernel
theorem dL_law_626 : decode cL_law 626 = .ok (.iaload, 1) := by decide +kernel
theorem dL_law_627 : decode cL_law 627 = .ok (.invokevirtual 86, 3) := by decide +kernel
theorem dL_law_630 : decode cL_law 630 = .ok (.aload_n 2, 1) := by decide +kernel
theorem dL_law_631 : decode cL_law 631 = .ok (.aload_n 0, 1) := by decide +kernel
theorem dL_law_632 : decode cL_law 632 = .ok (.iload_n 3, 1) := by decide +kernel
theorem dL_law_633 : decode cL_law 633 = .ok (.iconst 1, 1) := by decide +kernel
theorem dL_law_634 : decode cL_law 634 = .ok (.iadd, 1) := by decide +kernel
theorem dL_law_635 : decode cL_law 635 = .ok (.iaload, 1) := by decide +kernel
theorem dL_law_636 : decode cL_law 636 = .ok (.aload_n 0, 1) := by decide +kernel
theorem dL_law_637 : decode cL_law 637 = .ok (.iload_n 3, 1) := by decide +kernel
theorem dL_law_638 : decode cL_law 638 = .ok (.iconst 2, 1) := by decide +kernel
theorem dL_law_639 : decode cL_law 639 = .ok (.iadd, 1) := by decide +kernel
theorem dL_law_640 : decode cL_law 640 = .ok (.iaload, 1) := by decide +kernel
theorem dL_law_641 : decode cL_law 641 = .ok (.invokevirtual 89, 3) := by decide +kernel
theorem dL_law_644 : decode cL_law 644 = .ok (.if_icmp .eq 372, 3) := by decide +kernel
theorem dL_law_647 : decode cL_law 647 = .ok (.iconst 0, 1) := by decide +kernel
theorem dL_law_648 : decode cL_law 648 = .ok (.ireturn, 1) := by decide +kernel
theorem dL_law_649 : decode cL_law 649 = .ok (.aload_n 1, 1) := by decide +kernel
theorem dL_law_650 : decode cL_law 650 = .ok (.aload_n 0, 1) := by decide +kernel
theorem dL_law_651 : decode cL_law 651 = .ok (.iload_n 3, 1) := by decide +kernel
theorem dL_law_652 : decode cL_law 652 = .ok (.iconst 1, 1) := by decide +kernel
theorem dL_law_653 : decode cL_law 653 = .ok (.iadd, 1) := by decide +kernel
theorem dL_law_654 : decode cL_law 654 = .ok (.iaload, 1) := by decide +kernel
theorem dL_law_655 : decode cL_law 655 = .ok (.aload_n 0, 1) := by decide +kernel
theorem dL_law_656 : decode cL_law 656 = .ok (.iload_n 3, 1) := by decide +kernel
theorem dL_law_657 : decode cL_law 657 = .ok (.iconst 2, 1) := by decide +kernel
theorem dL_law_658 : decode cL_law 658 = .ok (.iadd, 1) := by decide +kernel
theorem dL_law_659 : decode cL_law 659 = .ok (.iaload, 1) := by decide +kernel
theorem dL_law_660 : decode cL_law 660 = .ok (.invokevirtual 90, 3) := by decide +kernel
theorem dL_law_663 : decode cL_law 663 = .ok (.aload_n 2, 1) := by decide +kernel
theorem dL_law_664 : decode cL_law 664 = .ok (.aload_n 0, 1) := by decide +kernel
theorem dL_law_665 : decode cL_law 665 = .ok (.iload_n 3, 1) := by decide +kernel
theorem dL_law_666 : decode cL_law 666 = .ok (.iconst 1, 1) := by decide +kernel
theorem dL_law_667 : decode cL_law 667 = .ok (.iadd, 1) := by decide +kernel
theorem dL_law_668 : decode cL_law 668 = .ok (.iaload, 1) := by decide +kernel
theorem dL_law_669 : decode cL_law 669 = .ok (.aload_n 0, 1) := by decide +kernel
theorem dL_law_670 : decode cL_law 670 = .ok (.iload_n 3, 1) := by decide +kernel
theorem dL_law_671 : decode cL_law 671 = .ok (.iconst 2, 1) := by decide +kernel
theorem dL_law_672 : decode cL_law 672 = .ok (.iadd, 1) := by decide +kernel
theorem dL_law_673 : decode cL_law 673 = .ok (.iaload, 1) := by decide +kernel
theorem dL_law_674 : decode cL_law 674 = .ok (.invokevirtual 93, 3) := by decide +kernel
theorem dL_law_677 : decode cL_law 677 = .ok (.if_icmp .eq 339, 3) := by decide +kernel
theorem dL_law_680 : decode cL_law 680 = .ok (.iconst 0, 1) := by decide +kernel
theorem dL_law_681 : decode cL_law 681 = .ok (.ireturn, 1) := by decide +kernel
theorem dL_law_682 : decode cL_law 682 = .ok (.aload_n 1, 1) := by decide +kernel
theorem dL_law_683 : decode cL_law 683 = .ok (.aload_n 0, 1) := by decide +kernel
theorem dL_law_684 : decode cL_law 684 = .ok (.iload_n 3, 1) := by decide +kernel
theorem dL_law_685 : decode cL_law 685 = .ok (.iconst 1, 1) := by decide +kernel
theorem dL_law_686 : decode cL_law 686 = .ok (.iadd, 1) := by decide +kernel
theorem dL_law_687 : decode cL_law 687 = .ok (.iaload, 1) := by decide +kernel
theorem dL_law_688 : decode cL_law 688 = .ok (.aload_n 0, 1) := by decide +kernel
theorem dL_law_689 : decode cL_law 689 = .ok (.iload_n 3, 1) := by decide +kernel
theorem dL_law_690 : decode cL_law 690 = .ok (.iconst 2, 1) := by decide +kernel
theorem dL_law_691 : decode cL_law 691 = .ok (.iadd, 1) := by decide +kernel
theorem dL_law_692 : decode cL_law 692 = .ok (.iaload, 1) := by decide +kernel
theorem dL_law_693 : decode cL_law 693 = .ok (.invokevirtual 94, 3) := by decide +kernel
theorem dL_law_696 : decode cL_law 696 = .ok (.aload_n 2, 1) := by decide +kernel
theorem dL_law_697 : decode cL_law 697 = .ok (.aload_n 0, 1) := by decide +kernel
theorem dL_law_698 : decode cL_law 698 = .ok (.iload_n 3, 1) := by decide +kernel
theorem dL_law_699 : decode cL_law 699 = .ok (.iconst 1, 1) := by decide +kernel
theorem dL_law_700 : decode cL_law 700 = .ok (.iadd, 1) := by decide +kernel
theorem dL_law_701 : decode cL_law 701 = .ok (.iaload, 1) := by decide +kernel
theorem dL_law_702 : decode cL_law 702 = .ok (.aload_n 0, 1) := by decide +kernel
theorem dL_law_703 : decode cL_law 703 = .ok (.iload_n 3, 1) := by decide +kernel
theorem dL_law_704 : decode cL_law 704 = .ok (.iconst 2, 1) := by decide +kernel
theorem dL_law_705 : decode cL_law 705 = .ok (.iadd, 1) := by decide +kernel
theorem dL_law_706 : decode cL_law 706 = .ok (.iaload, 1) := by decide +kernel
theorem dL_law_707 : decode cL_law 707 = .ok (.invokevirtual 97, 3) := by decide +kernel
theorem dL_law_710 : decode cL_law 710 = .ok (.if_icmp .eq 306, 3) := by decide +kernel
theorem dL_law_713 : decode cL_law 713 = .ok (.iconst 0, 1) := by decide +kernel
theorem dL_law_714 : decode cL_law 714 = .ok (.ireturn, 1) := by decide +kernel
theorem dL_law_715 : decode cL_law 715 = .ok (.aload_n 1, 1) := by decide +kernel
theorem dL_law_716 : decode cL_law 716 = .ok (.aload_n 0, 1) := by decide +kernel
theorem dL_law_717 : decode cL_law 717 = .ok (.iload_n 3, 1) := by decide +kernel
theorem dL_law_718 : decode cL_law 718 = .ok (.iconst 1, 1) := by decide +kernel
theorem dL_law_719 : decode cL_law 719 = .ok (.iadd, 1) := by decide +kernel
theorem dL_law_720 : decode cL_law 720 = .ok (.iaload, 1) := by decide +kernel
theorem dL_law_721 : decode cL_law 721 = .ok (.aload_n 0, 1) := by decide +kernel
theorem dL_law_722 : decode cL_law 722 = .ok (.iload_n 3, 1) := by decide +kernel
theorem dL_law_723 : decode cL_law 723 = .ok (.iconst 2, 1) := by decide +kernel
theorem dL_law_724 : decode cL_law 724 = .ok (.iadd, 1) := by decide +kernel
theorem dL_law_725 : decode cL_law 725 = .ok (.iaload, 1) := by decide +kernel
theorem dL_law_726 : decode cL_law 726 = .ok (.aload_n 0, 1) := by decide +kernel
theorem dL_law_727 : decode cL_law 727 = .ok (.iload_n 3, 1) := by decide +kernel
theorem dL_law_728 : decode cL_law 728 = .ok (.iconst 3, 1) := by decide +kernel
theorem dL_law_729 : decode cL_law 729 = .ok (.iadd, 1) := by decide +kernel
theorem dL_law_730 : decode cL_law 730 = .ok (.iaload, 1) := by decide +kernel
theorem dL_law_731 : decode cL_law 731 = .ok (.aload_n 0, 1) := by decide +kernel
theorem dL_law_732 : decode cL_law 732 = .ok (.iload_n 3, 1) := by decide +kernel
theorem dL_law_733 : decode cL_law 733 = .ok (.iconst 4, 1) := by decide +kernel
theorem dL_law_734 : decode cL_law 734 = .ok (.iadd, 1) := by decide +kernel
theorem dL_law_735 : decode cL_law 735 = .ok (.iaload, 1) := by decide +kernel
theorem dL_law_736 : decode cL_law 736 = .ok (.invokevirtual 98, 3) := by decide +kernel
theorem dL_law_739 : decode cL_law 739 = .ok (.aload_n 2, 1) := by decide +kernel
theorem dL_law_740 : decode cL_law 740 = .ok (.aload_n 0, 1) := by decide +kernel
theorem dL_law_741 : decode cL_law 741 = .ok (.iload_n 3, 1) := by decide +kernel
theorem dL_law_742 : decode cL_law 742 = .ok (.iconst 1, 1) := by decide +kernel
theorem dL_law_743 : decode cL_law 743 = .ok (.iadd, 1) := by decide +kernel
theorem dL_law_744 : decode cL_law 744 = .ok (.iaload, 1) := by decide +kernel
theorem dL_law_745 : decode cL_law 745 = .ok (.aload_n 0, 1) := by decide +kernel
theorem dL_law_746 : decode cL_law 746 = .ok (.iload_n 3, 1) := by decide +kernel
theorem dL_law_747 : decode cL_law 747 = .ok (.iconst 2, 1) := by decide +kernel
theorem dL_law_748 : decode cL_law 748 = .ok (.iadd, 1) := by decide +kernel
theorem dL_law_749 : decode cL_law 749 = .ok (.iaload, 1) := by decide +kernel
theorem dL_law_750 : decode cL_law 750 = .ok (.aload_n 0, 1) := by decide +kernel
theorem dL_law_751 : decode cL_law 751 = .ok (.iload_n 3, 1) := by decide +kernel
theorem dL_law_752 : decode cL_law 752 = .ok (.iconst 3, 1) := by decide +kernel
theorem dL_law_753 : decode cL_law 753 = .ok (.iadd, 1) := by decide +kernel
theorem dL_law_754 : decode cL_law 754 = .ok (.iaload, 1) := by decide +kernel
theorem dL_law_755 : decode cL_law 755 = .ok (.aload_n 0, 1) := by decide +kernel
theorem dL_law_756 : decode cL_law 756 = .ok (.iload_n 3, 1) := by decide +kernel
theorem dL_law_757 : decode cL_law 757 = .ok (.iconst 4, 1) := by decide +kernel
theorem dL_law_758 : decode cL_law 758 = .ok (.iadd, 1) := by decide +kernel
theorem dL_law_759 : decode cL_law 759 = .ok (.iaload, 1) := by decide +kernel
theorem dL_law_760 : decode cL_law 760 = .ok (.invokevirtual 102, 3) := by decide +kernel
theorem dL_law_763 : decode cL_law 763 = .ok (.if_icmp .eq 253, 3) := by decide +kernel
theorem dL_law_766 : decode cL_law 766 = .ok (.iconst 0, 1) := by decide +kernel
theorem dL_law_767 : decode cL_law 767 = .ok (.ireturn, 1) := by decide +kernel
theorem dL_law_768 : decode cL_law 768 = .ok (.aload_n 1, 1) := by decide +kernel
theorem dL_law_769 : decode cL_law 769 = .ok (.aload_n 0, 1) := by decide +kernel
theorem dL_law_770 : decode cL_law 770 = .ok (.iload_n 3, 1) := by decide +kernel
theorem dL_law_771 : decode cL_law 771 = .ok (.iconst 1, 1) := by decide +kernel
theorem dL_law_772 : decode cL_law 772 = .ok (.iadd, 1) := by decide +kernel
theorem dL_law_773 : decode cL_law 773 = .ok (.iaload, 1) := by decide +kernel
theorem dL_law_774 : decode cL_law 774 = .ok (.aload_n 0, 1) := by decide +kernel
theorem dL_law_775 : decode cL_law 775 = .ok (.iload_n 3, 1) := by decide +kernel
theorem dL_law_776 : decode cL_law 776 = .ok (.iconst 2, 1) := by decide +kernel
theorem dL_law_777 : decode cL_law 777 = .ok (.iadd, 1) := by decide +kernel
theorem dL_law_778 : decode cL_law 778 = .ok (.iaload, 1) := by decide +kernel
theorem dL_law_779 : decode cL_law 779 = .ok (.invokevirtual 103, 3) := by decide +kernel
theorem dL_law_782 : decode cL_law 782 = .ok (.aload_n 2, 1) := by decide +kernel
theorem dL_law_783 : decode cL_law 783 = .ok (.aload_n 0, 1) := by decide +kernel
theorem dL_law_784 : decode cL_law 784 = .ok (.iload_n 3, 1) := by decide +kernel
theorem dL_law_785 : decode cL_law 785 = .ok (.iconst 1, 1) := by decide +kernel
theorem dL_law_786 : decode cL_law 786 = .ok (.iadd, 1) := by decide +kernel
theorem dL_law_787 : decode cL_law 787 = .ok (.iaload, 1) := by decide +kernel
theorem dL_law_788 : decode cL_law 788 = .ok (.aload_n 0, 1) := by decide +kernel
theorem dL_law_789 : decode cL_law 789 = .ok (.iload_n 3, 1) := by decide +kernel
theorem dL_law_790 : decode cL_law 790 = .ok (.iconst 2, 1) := by decide +kernel
theorem dL_law_791 : decode cL_law 791 = .ok (.iadd, 1) := by decide +kernel
theorem dL_law_792 : decode cL_law 792 = .ok (.iaload, 1) := by decide +kernel
theorem dL_law_793 : decode cL_law 793 = .ok (.invokevirtual 106, 3) := by decide +kernel
theorem dL_law_796 : decode cL_law 796 = .ok (.if_icmp .eq 220, 3) := by decide +kernel
theorem dL_law_799 : decode cL_law 799 = .ok (.iconst 0, 1) := by decide +kernel
theorem dL_law_800 : decode cL_law 800 = .ok (.ireturn, 1) := by decide +kernel
theorem dL_law_801 : decode cL_law 801 = .ok (.aload_n 1, 1) := by decide +kernel
theorem dL_law_802 : decode cL_law 802 = .ok (.aload_n 0, 1) := by decide +kernel
theorem dL_law_803 : decode cL_law 803 = .ok (.iload_n 3, 1) := by decide +kernel
theorem dL_law_804 : decode cL_law 804 = .ok (.iconst 1, 1) := by decide +kernel
theorem dL_law_805 : decode cL_law 805 = .ok (.iadd, 1) := by decide +kernel
theorem dL_law_806 : decode cL_law 806 = .ok (.iaload, 1) := by decide +kernel
theorem dL_law_807 : decode cL_law 807 = .ok (.invokevirtual 107, 3) := by decide +kernel
theorem dL_law_810 : decode cL_law 810 = .ok (.aload_n 2, 1) := by decide +kernel
theorem dL_law_811 : decode cL_law 811 = .ok (.aload_n 0, 1) := by decide +kernel
theorem dL_law_812 : decode cL_law 812 = .ok (.iload_n 3, 1) := by decide +kernel
theorem dL_law_813 : decode cL_law 813 = .ok (.iconst 1, 1) := by decide +kernel
theorem dL_law_814 : decode cL_law 814 = .ok (.iadd, 1) := by decide +kernel
theorem dL_law_815 : decode cL_law 815 = .ok (.iaload, 1) := by decide +kernel
theorem dL_law_816 : decode cL_law 816 = .ok (.invokevirtual 110, 3) := by decide +kernel
theorem dL_law_819 : decode cL_law 819 = .ok (.if_icmp .eq 197, 3) := by decide +kernel
theorem dL_law_822 : decode cL_law 822 = .ok (.iconst 0, 1) := by decide +kernel
theorem dL_law_823 : decode cL_law 823 = .ok (.ireturn, 1) := by decide +kernel
theorem dL_law_824 : decode cL_law 824 = .ok (.aload_n 1, 1) := by decide +kernel
theorem dL_law_825 : decode cL_law 825 = .ok (.aload_n 0, 1) := by decide +kernel
theorem dL_law_826 : decode cL_law 826 = .ok (.iload_n 3, 1) := by decide +kernel
theorem dL_law_827 : decode cL_law 827 = .ok (.iconst 1, 1) := by decide +kernel
theorem dL_law_828 : decode cL_law 828 = .ok (.iadd, 1) := by decide +kernel
theorem dL_law_829 : decode cL_law 829 = .ok (.iaload, 1) := by decide +kernel
theorem dL_law_830 : decode cL_law 830 = .ok (.aload_n 0, 1) := by decide +kernel
theorem dL_law_831 : decode cL_law 831 = .ok (.iload_n 3, 1) := by decide +kernel
theorem dL_law_832 : decode cL_law 832 = .ok (.iconst 2, 1) := by decide +kernel
theorem dL_law_833 : decode cL_law 833 = .ok (.iadd, 1) := by decide +kernel
theorem dL_law_834 : decode cL_law 834 = .ok (.iaload, 1) := by decide +kernel
theorem dL_law_835 : decode cL_law 835 = .ok (.invokevirtual 111, 3) := by decide +kernel
theorem dL_law_838 : decode cL_law 838 = .ok (.aload_n 2, 1) := by decide +kernel
theorem dL_law_839 : decode cL_law 839 = .ok (.aload_n 0, 1) := by decide +kernel
theorem dL_law_840 : decode cL_law 840 = .ok (.iload_n 3, 1) := by decide +kernel
theorem dL_law_841 : decode cL_law 841 = .ok (.iconst 1, 1) := by decide +kernel
theorem dL_law_842 : decode cL_law 842 = .ok (.iadd, 1) := by decide +kernel
theorem dL_law_843 : decode cL_law 843 = .ok (.iaload, 1) := by decide +kernel
theorem dL_law_844 : decode cL_law 844 = .ok (.aload_n 0, 1) := by decide +kernel
theorem dL_law_845 : decode cL_law 845 = .ok (.iload_n 3, 1) := by decide +kernel
theorem dL_law_846 : decode cL_law 846 = .ok (.iconst 2, 1) := by decide +kernel
theorem dL_law_847 : decode cL_law 847 = .ok (.iadd, 1) := by decide +kernel
theorem dL_law_848 : decode cL_law 848 = .ok (.iaload, 1) := by decide +kernel
theorem dL_law_849 : decode cL_law 849 = .ok (.invokevirtual 114, 3) := by decide +kernel
theorem dL_law_852 : decode cL_law 852 = .ok (.if_icmp .eq 164, 3) := by decide +kernel
theorem dL_law_855 : decode cL_law 855 = .ok (.iconst 0, 1) := by decide +kernel
theorem dL_law_856 : decode cL_law 856 = .ok (.ireturn, 1) := by decide +kernel
theorem dL_law_857 : decode cL_law 857 = .ok (.aload_n 1, 1) := by decide +kernel
theorem dL_law_858 : decode cL_law 858 = .ok (.aload_n 0, 1) := by decide +kernel
theorem dL_law_859 : decode cL_law 859 = .ok (.iload_n 3, 1) := by decide +kernel
theorem dL_law_860 : decode cL_law 860 = .ok (.iconst 1, 1) := by decide +kernel
theorem dL_law_861 : decode cL_law 861 = .ok (.iadd, 1) := by decide +kernel
theorem dL_law_862 : decode cL_law 862 = .ok (.iaload, 1) := by decide +kernel
theorem dL_law_863 : decode cL_law 863 = .ok (.invokevirtual 115, 3) := by decide +kernel
theorem dL_law_866 : decode cL_law 866 = .ok (.aload_n 2, 1) := by decide +kernel
theorem dL_law_867 : decode cL_law 867 = .ok (.aload_n 0, 1) := by decide +kernel
theorem dL_law_868 : decode cL_law 868 = .ok (.iload_n 3, 1) := by decide +kernel
theorem dL_law_869 : decode cL_law 869 = .ok (.iconst 1, 1) := by decide +kernel
theorem dL_law_870 : decode cL_law 870 = .ok (.iadd, 1) := by decide +kernel
theorem dL_law_871 : decode cL_law 871 = .ok (.iaload, 1) := by decide +kernel
theorem dL_law_872 : decode cL_law 872 = .ok (.invokevirtual 118, 3) := by decide +kernel
theorem dL_law_875 : decode cL_law 875 = .ok (.if_icmp .eq 141, 3) := by decide +kernel
theorem dL_law_878 : decode cL_law 878 = .ok (.iconst 0, 1) := by decide +kernel
theorem dL_law_879 : decode cL_law 879 = .ok (.ireturn, 1) := by decide +kernel
theorem dL_law_880 : decode cL_law 880 = .ok (.aload_n 1, 1) := by decide +kernel
theorem dL_law_881 : decode cL_law 881 = .ok (.aload_n 0, 1) := by decide +kernel
theorem dL_law_882 : decode cL_law 882 = .ok (.iload_n 3, 1) := by decide +kernel
theorem dL_law_883 : decode cL_law 883 = .ok (.iconst 1, 1) := by decide +kernel
theorem dL_law_884 : decode cL_law 884 = .ok (.iadd, 1) := by decide +kernel
theorem dL_law_885 : decode cL_law 885 = .ok (.iaload, 1) := by decide +kernel
theorem dL_law_886 : decode cL_law 886 = .ok (.aload_n 0, 1) := by decide +kernel
theorem dL_law_887 : decode cL_law 887 = .ok (.iload_n 3, 1) := by decide +kernel
theorem dL_law_888 : decode cL_law 888 = .ok (.iconst 2, 1) := by decide +kernel
theorem dL_law_889 : decode cL_law 889 = .ok (.iadd, 1) := by decide +kernel
theorem dL_law_890 : decode cL_law 890 = .ok (.iaload, 1) := by decide +kernel
theorem dL_law_891 : decode cL_law 891 = .ok (.invokevirtual 119, 3) := by decide +kernel
theorem dL_law_894 : decode cL_law 894 = .ok (.aload_n 2, 1) := by decide +kernel
theorem dL_law_895 : decode cL_law 895 = .ok (.aload_n 0, 1) := by decide +kernel
theorem dL_law_896 : decode cL_law 896 = .ok (.iload_n 3, 1) := by decide +kernel
theorem dL_law_897 : decode cL_law 897 = .ok (.iconst 1, 1) := by decide +kernel
theorem dL_law_898 : decode cL_law 898 = .ok (.iadd, 1) := by decide +kernel
theorem dL_law_899 : decode cL_law 899 = .ok (.iaload, 1) := by decide +kernel
theorem dL_law_900 : decode cL_law 900 = .ok (.aload_n 0, 1) := by decide +kernel
theorem dL_law_901 : decode cL_law 901 = .ok (.iload_n 3, 1) := by decide +kernel
theorem dL_law_902 : decode cL_law 902 = .ok (.iconst 2, 1) := by decide +kernel
theorem dL_law_903 : decode cL_law 903 = .ok (.iadd, 1) := by decide +kernel
theorem dL_law_904 : decode cL_law 904 = .ok (.iaload, 1) := by decide +kernel
theorem dL_law_905 : decode cL_law 905 = .ok (.invokevirtual 122, 3) := by decide +kernel
theorem dL_law_908 : decode cL_law 908 = .ok (.if_icmp .eq 108, 3) := by decide +kernel
theorem dL_law_911 : decode cL_law 911 = .ok (.iconst 0, 1) := by decide +kernel
theorem dL_law_912 : decode cL_law 912 = .ok (.ireturn, 1) := by decide +kernel
theorem dL_law_913 : decode cL_law 913 = .ok (.aload_n 1, 1) := by decide +kernel
theorem dL_law_914 : decode cL_law 914 = .ok (.invokevirtual 123, 3) := by decide +kernel
theorem dL_law_917 : decode cL_law 917 = .ok (.aload_n 2, 1) := by decide +kernel
theorem dL_law_918 : decode cL_law 918 = .ok (.invokevirtual 126, 3) := by decide +kernel
theorem dL_law_921 : decode cL_law 921 = .ok (.goto 95, 3) := by decide +kernel
theorem dL_law_924 : decode cL_law 924 = .ok (.aload_n 1, 1) := by decide +kernel
theorem dL_law_925 : decode cL_law 925 = .ok (.aload_n 0, 1) := by decide +kernel
theorem dL_law_926 : decode cL_law 926 = .ok (.iload_n 3, 1) := by decide +kernel
theorem dL_law_927 : decode cL_law 927 = .ok (.iconst 1, 1) := by decide +kernel
theorem dL_law_928 : decode cL_law 928 = .ok (.iadd, 1) := by decide +kernel
theorem dL_law_929 : decode cL_law 929 = .ok (.iaload, 1) := by decide +kernel
theorem dL_law_930 : decode cL_law 930 = .ok (.invokevirtual 127, 3) := by decide +kernel
theorem dL_law_933 : decode cL_law 933 = .ok (.aload_n 2, 1) := by decide +kernel
theorem dL_law_934 : decode cL_law 934 = .ok (.aload_n 0, 1) := by decide +kernel
theorem dL_law_935 : decode cL_law 935 = .ok (.iload_n 3, 1) := by decide +kernel
theorem dL_law_936 : decode cL_law 936 = .ok (.iconst 1, 1) := by decide +kernel
theorem dL_law_937 : decode cL_law 937 = .ok (.iadd, 1) := by decide +kernel
theorem dL_law_938 : decode cL_law 938 = .ok (.iaload, 1) := by decide +kernel
theorem dL_law_939 : decode cL_law 939 = .ok (.invokevirtual 130, 3) := by decide +kernel
theorem dL_law_942 : decode cL_law 942 = .ok (.if_icmp .eq 74, 3) := by decide +kernel
theorem dL_law_945 : decode cL_law 945 = .ok (.iconst 0, 1) := by decide +kernel
theorem dL_law_946 : decode cL_law 946 = .ok (.ireturn, 1) := by decide +kernel
theorem dL_law_947 : decode cL_law 947 = .ok (.aload_n 1, 1) := by decide +kernel
theorem dL_law_948 : decode cL_law 948 = .ok (.invokevirtual 131, 3) := by decide +kernel
theorem dL_law_951 : decode cL_law 951 = .ok (.aload_n 2, 1) := by decide +kernel
theorem dL_law_952 : decode cL_law 952 = .ok (.invokevirtual 134, 3) := by decide +kernel
theorem dL_law_955 : decode cL_law 955 = .ok (.if_icmp .eq 61, 3) := by decide +kernel
theorem dL_law_958 : decode cL_law 958 = .ok (.iconst 0, 1) := by decide +kernel
theorem dL_law_959 : decode cL_law 959 = .ok (.ireturn, 1) := by decide +kernel
theorem dL_law_960 : decode cL_law 960 = .ok (.aload_n 1, 1) := by decide +kernel
theorem dL_law_961 : decode cL_law 961 = .ok (.aload_n 0, 1) := by decide +kernel
theorem dL_law_962 : decode cL_law 962 = .ok (.iload_n 3, 1) := by decide +kernel
theorem dL_law_963 : decode cL_law 963 = .ok (.iconst 1, 1) := by decide +kernel
theorem dL_law_964 : decode cL_law 964 = .ok (.iadd, 1) := by decide +kernel
theorem dL_law_965 : decode cL_law 965 = .ok (.iaload, 1) := by decide +kernel
theorem dL_law_966 : decode cL_law 966 = .ok (.aload_n 0, 1) := by decide +kernel
theorem dL_law_967 : decode cL_law 967 = .ok (.iload_n 3, 1) := by decide +kernel
theorem dL_law_968 : decode cL_law 968 = .ok (.iconst 2, 1) := by decide +kernel
theorem dL_law_969 : decode cL_law 969 = .ok (.iadd, 1) := by decide +kernel
theorem dL_law_970 : decode cL_law 970 = .ok (.iaload, 1) := by decide +kernel
theorem dL_law_971 : decode cL_law 971 = .ok (.invokevirtual 135, 3) := by decide +kernel
theorem dL_law_974 : decode cL_law 974 = .ok (.aload_n 2, 1) := by decide +kernel
theorem dL_law_975 : decode cL_law 975 = .ok (.aload_n 0, 1) := by decide +kernel
theorem dL_law_976 : decode cL_law 976 = .ok (.iload_n 3, 1) := by decide +kernel
theorem dL_law_977 : decode cL_law 977 = .ok (.iconst 1, 1) := by decide +kernel
theorem dL_law_978 : decode cL_law 978 = .ok (.iadd, 1) := by decide +kernel
theorem dL_law_979 : decode cL_law 979 = .ok (.iaload, 1) := by decide +kernel
theorem dL_law_980 : decode cL_law 980 = .ok (.aload_n 0, 1) := by decide +kernel
theorem dL_law_981 : decode cL_law 981 = .ok (.iload_n 3, 1) := by decide +kernel
theorem dL_law_982 : decode cL_law 982 = .ok (.iconst 2, 1) := by decide +kernel
theorem dL_law_983 : decode cL_law 983 = .ok (.iadd, 1) := by decide +kernel
theorem dL_law_984 : decode cL_law 984 = .ok (.iaload, 1) := by decide +kernel
theorem dL_law_985 : decode cL_law 985 = .ok (.invokevirtual 138, 3) := by decide +kernel
theorem dL_law_988 : decode cL_law 988 = .ok (.if_icmp .eq 28, 3) := by decide +kernel
theorem dL_law_991 : decode cL_law 991 = .ok (.iconst 0, 1) := by decide +kernel
theorem dL_law_992 : decode cL_law 992 = .ok (.ireturn, 1) := by decide +kernel
theorem dL_law_993 : decode cL_law 993 = .ok (.aload_n 1, 1) := by decide +kernel
theorem dL_law_994 : decode cL_law 994 = .ok (.aload_n 0, 1) := by decide +kernel
theorem dL_law_995 : decode cL_law 995 = .ok (.iload_n 3, 1) := by decide +kernel
theorem dL_law_996 : decode cL_law 996 = .ok (.iconst 1, 1) := by decide +kernel
theorem dL_law_997 : decode cL_law 997 = .ok (.iadd, 1) := by decide +kernel
theorem dL_law_998 : decode cL_law 998 = .ok (.iaload, 1) := by decide +kernel
theorem dL_law_999 : decode cL_law 999 = .ok (.invokevirtual 139, 3) := by decide +kernel
theorem dL_law_1002 : decode cL_law 1002 = .ok (.aload_n 2, 1) := by decide +kernel
theorem dL_law_1003 : decode cL_law 1003 = .ok (.aload_n 0, 1) := by decide +kernel
theorem dL_law_1004 : decode cL_law 1004 = .ok (.iload_n 3, 1) := by decide +kernel
theorem dL_law_1005 : decode cL_law 1005 = .ok (.iconst 1, 1) := by decide +kernel
theorem dL_law_1006 : decode cL_law 1006 = .ok (.iadd, 1) := by decide +kernel
theorem dL_law_1007 : decode cL_law 1007 = .ok (.iaload, 1) := by decide +kernel
theorem dL_law_1008 : decode cL_law 1008 = .ok (.invokevirtual 142, 3) := by decide +kernel
theorem dL_law_1011 : decode cL_law 1011 = .ok (.if_icmp .eq 5, 3) := by decide +kernel
theorem dL_law_1014 : decode cL_law 1014 = .ok (.iconst 0, 1) := by decide +kernel
theorem dL_law_1015 : decode cL_law 1015 = .ok (.ireturn, 1) := by decide +kernel
theorem dL_law_1016 : decode cL_law 1016 = .ok (.iinc 3 6, 3) := by decide +kernel
theorem dL_law_1019 : decode cL_law 1019 = .ok (.goto (-1001), 3) := by decide +kernel
theorem dL_law_1022 : decode cL_law 1022 = .ok (.iconst 1, 1) := by decide +kernel
theorem dL_law_1023 : decode cL_law 1023 = .ok (.ireturn, 1) := by decide +kernel
